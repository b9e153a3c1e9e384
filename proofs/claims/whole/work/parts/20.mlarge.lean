theorem pgI_60 {n : Nat} {σ : pgSt} (hI : pgI n σ) : (σ 13 0 = 60 ↔ ¬ σ 13 0 < 60) ∧ (¬ σ 13 0 = 60 → n < 60) := by
  have hn := hI.1
  rw [hI.2.1]
  have e1 : nI n = 60 ↔ n = 60 := nI_eq (a := n) (b := 60) (by omega) (by omega)
  have e2 : nI n < 60 ↔ n < 60 := nI_ltI (a := n) (b := 60) (by omega) (by omega)
  rw [e1, e2]
  omega
theorem pgI_K {n : Nat} {σ : pgSt} (hI : pgI n σ) : (σ 13 1 = 100 ↔ ¬ σ 13 1 < 100) ∧ (¬ σ 13 1 = 100 → vp_in (σ 13 1) 100) := by
  obtain ⟨K, hK, h1, -⟩ := hI.2.2.2.1
  rw [h1]
  have e1 : nI K = 100 ↔ K = 100 := nI_eq (a := K) (b := 100) (by omega) (by omega)
  have e2 : nI K < 100 ↔ K < 100 := nI_ltI (a := K) (b := 100) (by omega) (by omega)
  rw [e1, e2]
  exact ⟨by omega, fun h => vp_in_nI (by omega) (by omega)⟩
theorem pg_rho {n c : Nat} {σ : pgSt} {ρ : Nat → Int32} (hI : pgI n σ) (hR : pgRho σ ρ) (hc : c < 10) (h : ¬ σ 11 c = -1) : ρ (ix (σ 11 c)) = σ 12 c := by
  obtain ⟨-, k, hk, e⟩ := pg_inS hI hc h
  rw [e, show ix (nI k) = k from nI_clamp (by omega)]
  exact hR c k hc hk e
theorem pgCe_f {σ : pgSt} {k v : Int32} {i : Nat} (h : ¬ (σ 2 i = k ∧ pgAw σ i)) : pgCe σ k v i = pgCe σ k v (i + 1) := by
  have q := pgCeM_f (v := v) (Nat.lt_succ_self i) h
  rwa [Nat.min_eq_left (Nat.le_succ i), Nat.min_self] at q
theorem pgCe_t {σ : pgSt} {k v : Int32} {i : Nat} (h : σ 2 i = k ∧ pgAw σ i) : pgU (pgCe σ k v i) 9 i v = pgCe σ k v (i + 1) := by
  have q := pgCeM_t (v := v) (Nat.lt_succ_self i) h
  rwa [Nat.min_eq_left (Nat.le_succ i), Nat.min_self] at q
theorem pgCe_fin {σ : pgSt} {k v : Int32} {i : Nat} (hi : i < 2 ^ 31) : pgFin (pgCe σ k v i) (ix (nI i)) ↔ pgFin σ i := by
  rw [show ix (nI i) = i from nI_clamp hi]
  simp only [pgFin, pgCe_at (show (4 : Nat) ≠ 9 by decide), pgCe_at (show (8 : Nat) ≠ 9 by decide)]
theorem pgHo_sim {σ : pgSt} {i : Nat} {to v : Int32} : pgSim (pgU (pgU σ 2 i to) 13 3 v) (pgU (pgU (pgU σ 2 i to) 14 i to) 13 3 v) := pgSim.of fun t j h => by
  simp only [pgU]
  grind
theorem pgSim.trans_eq {σ σ2 σ3 : pgSt} (h : pgSim σ σ2) (e : σ2 = σ3) : pgSim σ σ3 := e ▸ h
set_option maxHeartbeats 4000000 in
set_option maxRecDepth 100000 in
/-- check -/
theorem c_X3_check (l : Launch) (D : va_G) (cD cC cI cZ cL : ClassId) (A : Nat → Prop) (σ : pgSt) (ρ : Nat → Int32) (th : Int32) (md : Nat → Nat) (n : Nat) (hI : pgI n σ) (d : Int32) (w : Int32) (g : Int32) (hg : g = 0 ∨ g = 1) : Met l yX3_check (.code yX3_check cX3_check 6 (some .int) :: pgWd) ({ frames := 2, cells := 0, slots := 0, locals := 43 } : Room) (pgPc D (pgTys cD cC cI cZ cL) A (pgM D cI cZ A σ ρ th md) [.ref (md 0), .int d, .int w, .int g]) (va_Qi (fun (r : Int32) (_ : Unit) => (sp_check σ d w g).1 = 0 → r = (sp_check σ d w g).2.1) (fun _ t9 => pgM D cI cZ A ((sp_check σ d w g).2.2) ρ (nI (sp_check σ d w g).1) md t9.heap) A) 0 0 A := by
  refine pg_enter (own := RX3) (by decide) rfl (Nat.le_of_ble_eq_true rfl) (fun p e s m below meth cc9 B hr hnm => ?_)
  refine j_fact (fun H h => pgM.inA h) (fun hIn => ?_)
  refine j_aload_n B dX3_check_0 0 rfl rfl ?_
  refine j_iload_n B dX3_check_1 1 rfl rfl ?_
  refine j_cVi B (S := Unit) 1 [.int d] (WdC' := fun _ => pgM D cI cZ A σ ρ th md) (fun _ => pgM D cI cZ A σ ρ th md) (c_X3_isDisk l D cD cC cI cZ cL A σ ρ th md n hI d) rfl (fun H h => pgM.m h) q_587 q_589 q_p7 q_3 q_590 hdX3_isDisk rfl ⟨Nat.le_of_ble_eq_true rfl, Nat.le_of_ble_eq_true rfl⟩ (Nat.le_of_ble_eq_true rfl) dX3_check_2 rfl ⟨Nat.le_of_ble_eq_true rfl, Nat.le_of_ble_eq_true rfl⟩ (fun _ h => h) (fun _ _ _ _ h => h) (fun _ h => h) (fun _ _ _ _ h _ _ => h) (fun r1 _ hp2 => ?_)
  by_cases h3 : pgIsD σ d
  · obtain rfl : r1 = 1 := by rw [hp2]; exact if_pos h3
    refine j_if_eq B 19 dX3_check_5 (by decide) (fun h4 => (absurd h4 (by decide))) (fun h4 => ?_)
    refine j_iload_n B dX3_check_8 2 rfl rfl ?_
    refine j_cSi B (S := Unit) 1 [.int w] (WdC' := fun _ => pgM D cI cZ A σ ρ th md) (fun _ => pgM D cI cZ A σ ρ th md) (c_X3_isKeeper l D cD cC cI cZ cL A σ ρ th md w) q_576 q_577 q_3 q_578 hdX3_isKeeper rfl ⟨Nat.le_of_ble_eq_true rfl, Nat.le_of_ble_eq_true rfl⟩ (Nat.le_of_ble_eq_true rfl) dX3_check_9 rfl ⟨Nat.le_of_ble_eq_true rfl, Nat.le_of_ble_eq_true rfl⟩ (fun _ h => h) (fun _ _ _ _ h => h) (fun _ h => h) (fun _ _ _ _ h _ _ => h) (fun r5 _ hp6 => ?_)
    by_cases h7 : pgIsK w
    · obtain rfl : r5 = 1 := by rw [hp6]; exact if_pos h7
      refine j_if_eq B 19 dX3_check_12 (by decide) (fun h8 => (absurd h8 (by decide))) (fun h8 => ?_)
      refine j_iconst B (v := 1) dX3_check_15 (by decide) ?_
      refine j_goto B 20 dX3_check_16 (by decide) ?_
      refine j_istore B (L' := [(4, .int 1), (0, .ref (md 0)), (1, .int d), (2, .int w), (3, .int g)]) dX3_check_20 (by decide) rfl ?_
      refine j_iload B dX3_check_22 0 rfl ?_
      refine j_if_eq B 51 dX3_check_24 (by decide) (fun h9 => (absurd h9 (by decide))) (fun h9 => ?_)
      refine j_aload_n B dX3_check_27 1 rfl rfl ?_
      refine j_get B (v := .ref (md 5)) pgX3 rfl (fun H h => pgM.m h) 5 (by decide) q_510 rfl rfl dX3_check_28 ?_
      refine j_iload_n B dX3_check_31 2 rfl rfl ?_
      refine j_ialdv B (fun H h => pgM.a5 h) 2 rfl (pg_inD hI h3) (v := σ 4 (ix d)) rfl dX3_check_32 ?_
      refine j_iconst B (v := 1) dX3_check_33 (by decide) ?_
      refine j_icmp_ne B 51 dX3_check_34 (by decide) (fun h10 => ?_) (fun h10 => ?_)
      · refine j_iconst B (v := 0) dX3_check_51 (by decide) ?_
        refine j_istore B (L' := [(5, .int 0), (4, .int 1), (0, .ref (md 0)), (1, .int d), (2, .int w), (3, .int g)]) dX3_check_52 (by decide) rfl ?_
        refine j_aload_n B dX3_check_54 2 rfl rfl ?_
        refine j_iload B dX3_check_55 1 rfl ?_
        refine j_if_ne B 64 dX3_check_57 (by decide) (fun h11 => ?_) (fun h11 => (absurd h11 (by decide)))
        refine j_iload B dX3_check_64 0 rfl ?_
        refine j_if_eq B 73 dX3_check_66 (by decide) (fun h12 => ?_) (fun h12 => (absurd (by decide) h12))
        refine j_aload_n B dX3_check_73 2 rfl rfl ?_
        refine j_iload_n B dX3_check_74 3 rfl rfl ?_
        refine j_cVi B (S := Unit) 1 [.int d] (WdC' := fun _ => pgM D cI cZ A σ ρ th md) (fun _ => pgM D cI cZ A σ ρ th md) (c_X3_isBarred l D cD cC cI cZ cL A σ ρ th md n hI d h3) rfl (fun H h => pgM.m h) q_591 q_593 q_p8 q_3 q_594 hdX3_isBarred rfl ⟨Nat.le_of_ble_eq_true rfl, Nat.le_of_ble_eq_true rfl⟩ (Nat.le_of_ble_eq_true rfl) dX3_check_75 rfl ⟨Nat.le_of_ble_eq_true rfl, Nat.le_of_ble_eq_true rfl⟩ (fun _ h => h) (fun _ _ _ _ h => h) (fun _ h => h) (fun _ _ _ _ h _ _ => h) (fun r13 _ hp14 => ?_)
        by_cases h15 : ¬ pgReach σ (ix d)
        · obtain rfl : r13 = 1 := by rw [hp14]; exact if_pos h15
          refine j_if_ne B 91 dX3_check_78 (by decide) (fun h16 => ?_) (fun h16 => (absurd h16 (by decide)))
          refine j_iconst B (v := 3) dX3_check_91 (by decide) ?_
          refine j_goto B 96 dX3_check_92 (by decide) ?_
          refine j_cVi B (S := Unit) 1 [.int 3] (WdC' := fun _ => pgM D cI cZ A σ ρ 3 md) (fun _ => pgM D cI cZ A σ ρ 3 md) (c_X3_can l D cD cC cI cZ cL A σ ρ th md 3) rfl (fun H h => pgM.m h) q_579 q_581 q_p6 q_3 q_582 hdX3_can rfl ⟨Nat.le_of_ble_eq_true rfl, Nat.le_of_ble_eq_true rfl⟩ (Nat.le_of_ble_eq_true rfl) dX3_check_96 rfl ⟨Nat.le_of_ble_eq_true rfl, Nat.le_of_ble_eq_true rfl⟩ (fun _ h => h) (fun _ _ _ _ h => h) (fun _ h => h) (fun _ _ _ _ h _ _ => h) (fun r17 _ hp18 => ?_)
          obtain rfl : r17 = 0 := by rw [hp18]; rfl
          refine j_if_ne B 104 dX3_check_99 (by decide) (fun h19 => (absurd (by decide) h19)) (fun h19 => ?_)
          refine j_iconst B (v := 0) dX3_check_102 (by decide) ?_
          have e1 : (sp_check σ d w g).1 = 3 := by
            simp only [sp_check]; grind
          have e2 : (sp_check σ d w g).2.2 = σ := by
            simp only [sp_check]; grind
          exact j_iret B hr rfl dX3_check_103 (Nat.le_of_ble_eq_true rfl) (Nat.le_of_ble_eq_true rfl) () (by rw [e1]; exact fun h => absurd h (by decide)) (fun H h => by rw [e1, e2]; exact h)
        · obtain rfl : r13 = 0 := by rw [hp14]; exact if_neg h15
          refine j_if_ne B 91 dX3_check_78 (by decide) (fun h20 => (absurd (by decide) h20)) (fun h20 => ?_)
          refine j_aload_n B dX3_check_81 2 rfl rfl ?_
          refine j_get B (v := .ref (md 5)) pgX3 rfl (fun H h => pgM.m h) 5 (by decide) q_510 rfl rfl dX3_check_82 ?_
          refine j_iload_n B dX3_check_85 3 rfl rfl ?_
          refine j_ialdv B (fun H h => pgM.a5 h) 2 rfl (pg_inD hI h3) (v := σ 4 (ix d)) rfl dX3_check_86 ?_
          refine j_iconst B (v := 1) dX3_check_87 (by decide) ?_
          refine j_icmp_eq B 95 dX3_check_88 (by decide) (fun h21 => ?_) (fun h21 => ?_)
          · refine j_iconst B (v := 0) dX3_check_95 (by decide) ?_
            refine j_cVi B (S := Unit) 1 [.int 0] (WdC' := fun _ => pgM D cI cZ A σ ρ 0 md) (fun _ => pgM D cI cZ A σ ρ 0 md) (c_X3_can l D cD cC cI cZ cL A σ ρ th md 0) rfl (fun H h => pgM.m h) q_579 q_581 q_p6 q_3 q_582 hdX3_can rfl ⟨Nat.le_of_ble_eq_true rfl, Nat.le_of_ble_eq_true rfl⟩ (Nat.le_of_ble_eq_true rfl) dX3_check_96 rfl ⟨Nat.le_of_ble_eq_true rfl, Nat.le_of_ble_eq_true rfl⟩ (fun _ h => h) (fun _ _ _ _ h => h) (fun _ h => h) (fun _ _ _ _ h _ _ => h) (fun r22 _ hp23 => ?_)
            obtain rfl : r22 = 1 := by rw [hp23]; rfl
            refine j_if_ne B 104 dX3_check_99 (by decide) (fun h24 => ?_) (fun h24 => (absurd h24 (by decide)))
            refine j_aload_n B dX3_check_104 2 rfl rfl ?_
            refine j_get B (v := .ref (md 9)) pgX3 rfl (fun H h => pgM.m h) 9 (by decide) q_514 rfl rfl dX3_check_105 ?_
            refine j_iload_n B dX3_check_108 3 rfl rfl ?_
            refine j_iload_n B dX3_check_109 5 rfl rfl ?_
            refine j_zast B (Wd' := pgM D cI cZ A (pgU σ 8 (ix d) g) ρ 0 md) (fun H h => pgM.a9 h) 3 rfl (pg_inD hI h3) dX3_check_110 (hIn 9 (by omega)) (fun H H1 h hc hz ho => pgM.putA h (by decide) (pgMx rfl rfl (by decide)) (by rw [pg_narZ hg] at hc; exact hc) ho) ?_
            refine j_aload_n B dX3_check_111 2 rfl rfl ?_
            refine j_get B (v := .ref (md 5)) pgX3 rfl (fun H h => pgM.m h) 5 (by decide) q_510 rfl rfl dX3_check_112 ?_
            refine j_iload_n B dX3_check_115 3 rfl rfl ?_
            refine j_iload_n B dX3_check_116 5 rfl rfl ?_
            refine j_if_eq B 124 dX3_check_117 (by decide) (fun h25 => ?_) (fun h25 => ?_)
            · refine j_iconst B (v := 2) dX3_check_124 (by decide) ?_
              refine j_iast B (Wd' := pgM D cI cZ A (pgU (pgU σ 8 (ix d) g) 4 (ix d) 2) ρ 0 md) (fun H h => pgM.a5 h) 2 rfl (pg_inD hI h3) dX3_check_125 (hIn 5 (by omega)) (fun H H1 h hc hz ho => pgM.putA h (by decide) (pgMx rfl rfl (by decide)) hc ho) ?_
              refine j_aload_n B dX3_check_126 2 rfl rfl ?_
              refine j_get B (v := .ref (md 5)) pgX3 rfl (fun H h => pgM.m h) 5 (by decide) q_510 rfl rfl dX3_check_127 ?_
              refine j_iload_n B dX3_check_130 3 rfl rfl ?_
              refine j_ialdv B (fun H h => pgM.a5 h) 2 rfl (pg_inD hI h3) (v := 2) (by simp [pgU]) dX3_check_131 ?_
              have e9 : sp_check σ d w g = (0, 2, pgU (pgU σ 8 (ix d) g) 4 (ix d) 2) := by
                simp only [sp_check]; grind
              exact j_iret B hr rfl dX3_check_132 (Nat.le_of_ble_eq_true rfl) (Nat.le_of_ble_eq_true rfl) () (by rw [e9]; exact fun _ => rfl) (fun H h => by rw [e9]; exact pgM.sim h (pgSim.of fun _ _ _ => rfl))
            · refine j_iconst B (v := 1) dX3_check_120 (by decide) ?_
              refine j_goto B 125 dX3_check_121 (by decide) ?_
              refine j_iast B (Wd' := pgM D cI cZ A (pgU (pgU σ 8 (ix d) g) 4 (ix d) 1) ρ 0 md) (fun H h => pgM.a5 h) 2 rfl (pg_inD hI h3) dX3_check_125 (hIn 5 (by omega)) (fun H H1 h hc hz ho => pgM.putA h (by decide) (pgMx rfl rfl (by decide)) hc ho) ?_
              refine j_aload_n B dX3_check_126 2 rfl rfl ?_
              refine j_get B (v := .ref (md 5)) pgX3 rfl (fun H h => pgM.m h) 5 (by decide) q_510 rfl rfl dX3_check_127 ?_
              refine j_iload_n B dX3_check_130 3 rfl rfl ?_
              refine j_ialdv B (fun H h => pgM.a5 h) 2 rfl (pg_inD hI h3) (v := 1) (by simp [pgU]) dX3_check_131 ?_
              have e9 : sp_check σ d w g = (0, 1, pgU (pgU σ 8 (ix d) g) 4 (ix d) 1) := by
                simp only [sp_check]; grind
              exact j_iret B hr rfl dX3_check_132 (Nat.le_of_ble_eq_true rfl) (Nat.le_of_ble_eq_true rfl) () (by rw [e9]; exact fun _ => rfl) (fun H h => by rw [e9]; exact pgM.sim h (pgSim.of fun _ _ _ => rfl))
          · refine j_iconst B (v := 3) dX3_check_91 (by decide) ?_
            refine j_goto B 96 dX3_check_92 (by decide) ?_
            refine j_cVi B (S := Unit) 1 [.int 3] (WdC' := fun _ => pgM D cI cZ A σ ρ 3 md) (fun _ => pgM D cI cZ A σ ρ 3 md) (c_X3_can l D cD cC cI cZ cL A σ ρ th md 3) rfl (fun H h => pgM.m h) q_579 q_581 q_p6 q_3 q_582 hdX3_can rfl ⟨Nat.le_of_ble_eq_true rfl, Nat.le_of_ble_eq_true rfl⟩ (Nat.le_of_ble_eq_true rfl) dX3_check_96 rfl ⟨Nat.le_of_ble_eq_true rfl, Nat.le_of_ble_eq_true rfl⟩ (fun _ h => h) (fun _ _ _ _ h => h) (fun _ h => h) (fun _ _ _ _ h _ _ => h) (fun r26 _ hp27 => ?_)
            obtain rfl : r26 = 0 := by rw [hp27]; rfl
            refine j_if_ne B 104 dX3_check_99 (by decide) (fun h28 => (absurd (by decide) h28)) (fun h28 => ?_)
            refine j_iconst B (v := 0) dX3_check_102 (by decide) ?_
            have e1 : (sp_check σ d w g).1 = 3 := by
              simp only [sp_check]; grind
            have e2 : (sp_check σ d w g).2.2 = σ := by
              simp only [sp_check]; grind
            exact j_iret B hr rfl dX3_check_103 (Nat.le_of_ble_eq_true rfl) (Nat.le_of_ble_eq_true rfl) () (by rw [e1]; exact fun h => absurd h (by decide)) (fun H h => by rw [e1, e2]; exact h)
      · refine j_aload_n B dX3_check_37 1 rfl rfl ?_
        refine j_get B (v := .ref (md 8)) pgX3 rfl (fun H h => pgM.m h) 8 (by decide) q_513 rfl rfl dX3_check_38 ?_
        refine j_iload_n B dX3_check_41 2 rfl rfl ?_
        refine j_ialdv B (fun H h => pgM.a8 h) 2 rfl (pg_inD hI h3) (v := σ 7 (ix d)) rfl dX3_check_42 ?_
        refine j_iload_n B dX3_check_43 3 rfl rfl ?_
        refine j_icmp_ne B 51 dX3_check_44 (by decide) (fun h29 => ?_) (fun h29 => ?_)
        · refine j_iconst B (v := 0) dX3_check_51 (by decide) ?_
          refine j_istore B (L' := [(5, .int 0), (4, .int 1), (0, .ref (md 0)), (1, .int d), (2, .int w), (3, .int g)]) dX3_check_52 (by decide) rfl ?_
          refine j_aload_n B dX3_check_54 2 rfl rfl ?_
          refine j_iload B dX3_check_55 1 rfl ?_
          refine j_if_ne B 64 dX3_check_57 (by decide) (fun h30 => ?_) (fun h30 => (absurd h30 (by decide)))
          refine j_iload B dX3_check_64 0 rfl ?_
          refine j_if_eq B 73 dX3_check_66 (by decide) (fun h31 => ?_) (fun h31 => (absurd (by decide) h31))
          refine j_aload_n B dX3_check_73 2 rfl rfl ?_
          refine j_iload_n B dX3_check_74 3 rfl rfl ?_
          refine j_cVi B (S := Unit) 1 [.int d] (WdC' := fun _ => pgM D cI cZ A σ ρ th md) (fun _ => pgM D cI cZ A σ ρ th md) (c_X3_isBarred l D cD cC cI cZ cL A σ ρ th md n hI d h3) rfl (fun H h => pgM.m h) q_591 q_593 q_p8 q_3 q_594 hdX3_isBarred rfl ⟨Nat.le_of_ble_eq_true rfl, Nat.le_of_ble_eq_true rfl⟩ (Nat.le_of_ble_eq_true rfl) dX3_check_75 rfl ⟨Nat.le_of_ble_eq_true rfl, Nat.le_of_ble_eq_true rfl⟩ (fun _ h => h) (fun _ _ _ _ h => h) (fun _ h => h) (fun _ _ _ _ h _ _ => h) (fun r32 _ hp33 => ?_)
          by_cases h34 : ¬ pgReach σ (ix d)
          · obtain rfl : r32 = 1 := by rw [hp33]; exact if_pos h34
            refine j_if_ne B 91 dX3_check_78 (by decide) (fun h35 => ?_) (fun h35 => (absurd h35 (by decide)))
            refine j_iconst B (v := 3) dX3_check_91 (by decide) ?_
            refine j_goto B 96 dX3_check_92 (by decide) ?_
            refine j_cVi B (S := Unit) 1 [.int 3] (WdC' := fun _ => pgM D cI cZ A σ ρ 3 md) (fun _ => pgM D cI cZ A σ ρ 3 md) (c_X3_can l D cD cC cI cZ cL A σ ρ th md 3) rfl (fun H h => pgM.m h) q_579 q_581 q_p6 q_3 q_582 hdX3_can rfl ⟨Nat.le_of_ble_eq_true rfl, Nat.le_of_ble_eq_true rfl⟩ (Nat.le_of_ble_eq_true rfl) dX3_check_96 rfl ⟨Nat.le_of_ble_eq_true rfl, Nat.le_of_ble_eq_true rfl⟩ (fun _ h => h) (fun _ _ _ _ h => h) (fun _ h => h) (fun _ _ _ _ h _ _ => h) (fun r36 _ hp37 => ?_)
            obtain rfl : r36 = 0 := by rw [hp37]; rfl
            refine j_if_ne B 104 dX3_check_99 (by decide) (fun h38 => (absurd (by decide) h38)) (fun h38 => ?_)
            refine j_iconst B (v := 0) dX3_check_102 (by decide) ?_
            have e1 : (sp_check σ d w g).1 = 3 := by
              simp only [sp_check]; grind
            have e2 : (sp_check σ d w g).2.2 = σ := by
              simp only [sp_check]; grind
            exact j_iret B hr rfl dX3_check_103 (Nat.le_of_ble_eq_true rfl) (Nat.le_of_ble_eq_true rfl) () (by rw [e1]; exact fun h => absurd h (by decide)) (fun H h => by rw [e1, e2]; exact h)
          · obtain rfl : r32 = 0 := by rw [hp33]; exact if_neg h34
            refine j_if_ne B 91 dX3_check_78 (by decide) (fun h39 => (absurd (by decide) h39)) (fun h39 => ?_)
            refine j_aload_n B dX3_check_81 2 rfl rfl ?_
            refine j_get B (v := .ref (md 5)) pgX3 rfl (fun H h => pgM.m h) 5 (by decide) q_510 rfl rfl dX3_check_82 ?_
            refine j_iload_n B dX3_check_85 3 rfl rfl ?_
            refine j_ialdv B (fun H h => pgM.a5 h) 2 rfl (pg_inD hI h3) (v := σ 4 (ix d)) rfl dX3_check_86 ?_
            refine j_iconst B (v := 1) dX3_check_87 (by decide) ?_
            refine j_icmp_eq B 95 dX3_check_88 (by decide) (fun h40 => ?_) (fun h40 => ?_)
            · refine j_iconst B (v := 0) dX3_check_95 (by decide) ?_
              refine j_cVi B (S := Unit) 1 [.int 0] (WdC' := fun _ => pgM D cI cZ A σ ρ 0 md) (fun _ => pgM D cI cZ A σ ρ 0 md) (c_X3_can l D cD cC cI cZ cL A σ ρ th md 0) rfl (fun H h => pgM.m h) q_579 q_581 q_p6 q_3 q_582 hdX3_can rfl ⟨Nat.le_of_ble_eq_true rfl, Nat.le_of_ble_eq_true rfl⟩ (Nat.le_of_ble_eq_true rfl) dX3_check_96 rfl ⟨Nat.le_of_ble_eq_true rfl, Nat.le_of_ble_eq_true rfl⟩ (fun _ h => h) (fun _ _ _ _ h => h) (fun _ h => h) (fun _ _ _ _ h _ _ => h) (fun r41 _ hp42 => ?_)
              obtain rfl : r41 = 1 := by rw [hp42]; rfl
              refine j_if_ne B 104 dX3_check_99 (by decide) (fun h43 => ?_) (fun h43 => (absurd h43 (by decide)))
              refine j_aload_n B dX3_check_104 2 rfl rfl ?_
              refine j_get B (v := .ref (md 9)) pgX3 rfl (fun H h => pgM.m h) 9 (by decide) q_514 rfl rfl dX3_check_105 ?_
              refine j_iload_n B dX3_check_108 3 rfl rfl ?_
              refine j_iload_n B dX3_check_109 5 rfl rfl ?_
              refine j_zast B (Wd' := pgM D cI cZ A (pgU σ 8 (ix d) g) ρ 0 md) (fun H h => pgM.a9 h) 3 rfl (pg_inD hI h3) dX3_check_110 (hIn 9 (by omega)) (fun H H1 h hc hz ho => pgM.putA h (by decide) (pgMx rfl rfl (by decide)) (by rw [pg_narZ hg] at hc; exact hc) ho) ?_
              refine j_aload_n B dX3_check_111 2 rfl rfl ?_
              refine j_get B (v := .ref (md 5)) pgX3 rfl (fun H h => pgM.m h) 5 (by decide) q_510 rfl rfl dX3_check_112 ?_
              refine j_iload_n B dX3_check_115 3 rfl rfl ?_
              refine j_iload_n B dX3_check_116 5 rfl rfl ?_
              refine j_if_eq B 124 dX3_check_117 (by decide) (fun h44 => ?_) (fun h44 => ?_)
              · refine j_iconst B (v := 2) dX3_check_124 (by decide) ?_
                refine j_iast B (Wd' := pgM D cI cZ A (pgU (pgU σ 8 (ix d) g) 4 (ix d) 2) ρ 0 md) (fun H h => pgM.a5 h) 2 rfl (pg_inD hI h3) dX3_check_125 (hIn 5 (by omega)) (fun H H1 h hc hz ho => pgM.putA h (by decide) (pgMx rfl rfl (by decide)) hc ho) ?_
                refine j_aload_n B dX3_check_126 2 rfl rfl ?_
                refine j_get B (v := .ref (md 5)) pgX3 rfl (fun H h => pgM.m h) 5 (by decide) q_510 rfl rfl dX3_check_127 ?_
                refine j_iload_n B dX3_check_130 3 rfl rfl ?_
                refine j_ialdv B (fun H h => pgM.a5 h) 2 rfl (pg_inD hI h3) (v := 2) (by simp [pgU]) dX3_check_131 ?_
                have e9 : sp_check σ d w g = (0, 2, pgU (pgU σ 8 (ix d) g) 4 (ix d) 2) := by
                  simp only [sp_check]; grind
                exact j_iret B hr rfl dX3_check_132 (Nat.le_of_ble_eq_true rfl) (Nat.le_of_ble_eq_true rfl) () (by rw [e9]; exact fun _ => rfl) (fun H h => by rw [e9]; exact pgM.sim h (pgSim.of fun _ _ _ => rfl))
              · refine j_iconst B (v := 1) dX3_check_120 (by decide) ?_
                refine j_goto B 125 dX3_check_121 (by decide) ?_
                refine j_iast B (Wd' := pgM D cI cZ A (pgU (pgU σ 8 (ix d) g) 4 (ix d) 1) ρ 0 md) (fun H h => pgM.a5 h) 2 rfl (pg_inD hI h3) dX3_check_125 (hIn 5 (by omega)) (fun H H1 h hc hz ho => pgM.putA h (by decide) (pgMx rfl rfl (by decide)) hc ho) ?_
                refine j_aload_n B dX3_check_126 2 rfl rfl ?_
                refine j_get B (v := .ref (md 5)) pgX3 rfl (fun H h => pgM.m h) 5 (by decide) q_510 rfl rfl dX3_check_127 ?_
                refine j_iload_n B dX3_check_130 3 rfl rfl ?_
                refine j_ialdv B (fun H h => pgM.a5 h) 2 rfl (pg_inD hI h3) (v := 1) (by simp [pgU]) dX3_check_131 ?_
                have e9 : sp_check σ d w g = (0, 1, pgU (pgU σ 8 (ix d) g) 4 (ix d) 1) := by
                  simp only [sp_check]; grind
                exact j_iret B hr rfl dX3_check_132 (Nat.le_of_ble_eq_true rfl) (Nat.le_of_ble_eq_true rfl) () (by rw [e9]; exact fun _ => rfl) (fun H h => by rw [e9]; exact pgM.sim h (pgSim.of fun _ _ _ => rfl))
            · refine j_iconst B (v := 3) dX3_check_91 (by decide) ?_
              refine j_goto B 96 dX3_check_92 (by decide) ?_
              refine j_cVi B (S := Unit) 1 [.int 3] (WdC' := fun _ => pgM D cI cZ A σ ρ 3 md) (fun _ => pgM D cI cZ A σ ρ 3 md) (c_X3_can l D cD cC cI cZ cL A σ ρ th md 3) rfl (fun H h => pgM.m h) q_579 q_581 q_p6 q_3 q_582 hdX3_can rfl ⟨Nat.le_of_ble_eq_true rfl, Nat.le_of_ble_eq_true rfl⟩ (Nat.le_of_ble_eq_true rfl) dX3_check_96 rfl ⟨Nat.le_of_ble_eq_true rfl, Nat.le_of_ble_eq_true rfl⟩ (fun _ h => h) (fun _ _ _ _ h => h) (fun _ h => h) (fun _ _ _ _ h _ _ => h) (fun r45 _ hp46 => ?_)
              obtain rfl : r45 = 0 := by rw [hp46]; rfl
              refine j_if_ne B 104 dX3_check_99 (by decide) (fun h47 => (absurd (by decide) h47)) (fun h47 => ?_)
              refine j_iconst B (v := 0) dX3_check_102 (by decide) ?_
              have e1 : (sp_check σ d w g).1 = 3 := by
                simp only [sp_check]; grind
              have e2 : (sp_check σ d w g).2.2 = σ := by
                simp only [sp_check]; grind
              exact j_iret B hr rfl dX3_check_103 (Nat.le_of_ble_eq_true rfl) (Nat.le_of_ble_eq_true rfl) () (by rw [e1]; exact fun h => absurd h (by decide)) (fun H h => by rw [e1, e2]; exact h)
        · refine j_iconst B (v := 1) dX3_check_47 (by decide) ?_
          refine j_goto B 52 dX3_check_48 (by decide) ?_
          refine j_istore B (L' := [(5, .int 1), (4, .int 1), (0, .ref (md 0)), (1, .int d), (2, .int w), (3, .int g)]) dX3_check_52 (by decide) rfl ?_
          refine j_aload_n B dX3_check_54 2 rfl rfl ?_
          refine j_iload B dX3_check_55 1 rfl ?_
          refine j_if_ne B 64 dX3_check_57 (by decide) (fun h48 => ?_) (fun h48 => (absurd h48 (by decide)))
          refine j_iload B dX3_check_64 0 rfl ?_
          refine j_if_eq B 73 dX3_check_66 (by decide) (fun h49 => (absurd h49 (by decide))) (fun h49 => ?_)
          refine j_iconst B (v := 2) dX3_check_69 (by decide) ?_
          refine j_goto B 96 dX3_check_70 (by decide) ?_
          refine j_cVi B (S := Unit) 1 [.int 2] (WdC' := fun _ => pgM D cI cZ A σ ρ 2 md) (fun _ => pgM D cI cZ A σ ρ 2 md) (c_X3_can l D cD cC cI cZ cL A σ ρ th md 2) rfl (fun H h => pgM.m h) q_579 q_581 q_p6 q_3 q_582 hdX3_can rfl ⟨Nat.le_of_ble_eq_true rfl, Nat.le_of_ble_eq_true rfl⟩ (Nat.le_of_ble_eq_true rfl) dX3_check_96 rfl ⟨Nat.le_of_ble_eq_true rfl, Nat.le_of_ble_eq_true rfl⟩ (fun _ h => h) (fun _ _ _ _ h => h) (fun _ h => h) (fun _ _ _ _ h _ _ => h) (fun r50 _ hp51 => ?_)
          obtain rfl : r50 = 0 := by rw [hp51]; rfl
          refine j_if_ne B 104 dX3_check_99 (by decide) (fun h52 => (absurd (by decide) h52)) (fun h52 => ?_)
          refine j_iconst B (v := 0) dX3_check_102 (by decide) ?_
          have e1 : (sp_check σ d w g).1 = 2 := by
            simp only [sp_check]; grind
          have e2 : (sp_check σ d w g).2.2 = σ := by
            simp only [sp_check]; grind
          exact j_iret B hr rfl dX3_check_103 (Nat.le_of_ble_eq_true rfl) (Nat.le_of_ble_eq_true rfl) () (by rw [e1]; exact fun h => absurd h (by decide)) (fun H h => by rw [e1, e2]; exact h)
    · obtain rfl : r5 = 0 := by rw [hp6]; exact if_neg h7
      refine j_if_eq B 19 dX3_check_12 (by decide) (fun h53 => ?_) (fun h53 => (absurd (by decide) h53))
      refine j_iconst B (v := 0) dX3_check_19 (by decide) ?_
      refine j_istore B (L' := [(4, .int 0), (0, .ref (md 0)), (1, .int d), (2, .int w), (3, .int g)]) dX3_check_20 (by decide) rfl ?_
      refine j_iload B dX3_check_22 0 rfl ?_
      refine j_if_eq B 51 dX3_check_24 (by decide) (fun h54 => ?_) (fun h54 => (absurd (by decide) h54))
      refine j_iconst B (v := 0) dX3_check_51 (by decide) ?_
      refine j_istore B (L' := [(5, .int 0), (4, .int 0), (0, .ref (md 0)), (1, .int d), (2, .int w), (3, .int g)]) dX3_check_52 (by decide) rfl ?_
      refine j_aload_n B dX3_check_54 2 rfl rfl ?_
      refine j_iload B dX3_check_55 1 rfl ?_
      refine j_if_ne B 64 dX3_check_57 (by decide) (fun h55 => (absurd (by decide) h55)) (fun h55 => ?_)
      refine j_iconst B (v := 1) dX3_check_60 (by decide) ?_
      refine j_goto B 96 dX3_check_61 (by decide) ?_
      refine j_cVi B (S := Unit) 1 [.int 1] (WdC' := fun _ => pgM D cI cZ A σ ρ 1 md) (fun _ => pgM D cI cZ A σ ρ 1 md) (c_X3_can l D cD cC cI cZ cL A σ ρ th md 1) rfl (fun H h => pgM.m h) q_579 q_581 q_p6 q_3 q_582 hdX3_can rfl ⟨Nat.le_of_ble_eq_true rfl, Nat.le_of_ble_eq_true rfl⟩ (Nat.le_of_ble_eq_true rfl) dX3_check_96 rfl ⟨Nat.le_of_ble_eq_true rfl, Nat.le_of_ble_eq_true rfl⟩ (fun _ h => h) (fun _ _ _ _ h => h) (fun _ h => h) (fun _ _ _ _ h _ _ => h) (fun r56 _ hp57 => ?_)
      obtain rfl : r56 = 0 := by rw [hp57]; rfl
      refine j_if_ne B 104 dX3_check_99 (by decide) (fun h58 => (absurd (by decide) h58)) (fun h58 => ?_)
      refine j_iconst B (v := 0) dX3_check_102 (by decide) ?_
      have e1 : (sp_check σ d w g).1 = 1 := by
        simp only [sp_check]; grind
      have e2 : (sp_check σ d w g).2.2 = σ := by
        simp only [sp_check]; grind
      exact j_iret B hr rfl dX3_check_103 (Nat.le_of_ble_eq_true rfl) (Nat.le_of_ble_eq_true rfl) () (by rw [e1]; exact fun h => absurd h (by decide)) (fun H h => by rw [e1, e2]; exact h)
  · obtain rfl : r1 = 0 := by rw [hp2]; exact if_neg h3
    refine j_if_eq B 19 dX3_check_5 (by decide) (fun h59 => ?_) (fun h59 => (absurd (by decide) h59))
    refine j_iconst B (v := 0) dX3_check_19 (by decide) ?_
    refine j_istore B (L' := [(4, .int 0), (0, .ref (md 0)), (1, .int d), (2, .int w), (3, .int g)]) dX3_check_20 (by decide) rfl ?_
    refine j_iload B dX3_check_22 0 rfl ?_
    refine j_if_eq B 51 dX3_check_24 (by decide) (fun h60 => ?_) (fun h60 => (absurd (by decide) h60))
    refine j_iconst B (v := 0) dX3_check_51 (by decide) ?_
    refine j_istore B (L' := [(5, .int 0), (4, .int 0), (0, .ref (md 0)), (1, .int d), (2, .int w), (3, .int g)]) dX3_check_52 (by decide) rfl ?_
    refine j_aload_n B dX3_check_54 2 rfl rfl ?_
    refine j_iload B dX3_check_55 1 rfl ?_
    refine j_if_ne B 64 dX3_check_57 (by decide) (fun h61 => (absurd (by decide) h61)) (fun h61 => ?_)
    refine j_iconst B (v := 1) dX3_check_60 (by decide) ?_
    refine j_goto B 96 dX3_check_61 (by decide) ?_
    refine j_cVi B (S := Unit) 1 [.int 1] (WdC' := fun _ => pgM D cI cZ A σ ρ 1 md) (fun _ => pgM D cI cZ A σ ρ 1 md) (c_X3_can l D cD cC cI cZ cL A σ ρ th md 1) rfl (fun H h => pgM.m h) q_579 q_581 q_p6 q_3 q_582 hdX3_can rfl ⟨Nat.le_of_ble_eq_true rfl, Nat.le_of_ble_eq_true rfl⟩ (Nat.le_of_ble_eq_true rfl) dX3_check_96 rfl ⟨Nat.le_of_ble_eq_true rfl, Nat.le_of_ble_eq_true rfl⟩ (fun _ h => h) (fun _ _ _ _ h => h) (fun _ h => h) (fun _ _ _ _ h _ _ => h) (fun r62 _ hp63 => ?_)
    obtain rfl : r62 = 0 := by rw [hp63]; rfl
    refine j_if_ne B 104 dX3_check_99 (by decide) (fun h64 => (absurd (by decide) h64)) (fun h64 => ?_)
    refine j_iconst B (v := 0) dX3_check_102 (by decide) ?_
    have e1 : (sp_check σ d w g).1 = 1 := by
      simp only [sp_check]; grind
    have e2 : (sp_check σ d w g).2.2 = σ := by
      simp only [sp_check]; grind
    exact j_iret B hr rfl dX3_check_103 (Nat.le_of_ble_eq_true rfl) (Nat.le_of_ble_eq_true rfl) () (by rw [e1]; exact fun h => absurd h (by decide)) (fun H h => by rw [e1, e2]; exact h)
set_option maxHeartbeats 4000000 in
set_option maxRecDepth 100000 in
/-- pack -/
theorem c_X3_pack (l : Launch) (D : va_G) (cD cC cI cZ cL : ClassId) (A : Nat → Prop) (σ : pgSt) (ρ : Nat → Int32) (th : Int32) (md : Nat → Nat) (n : Nat) (hI : pgI n σ) (d : Int32) (c : Int32) : Met l yX3_pack (.code yX3_pack cX3_pack 5 (some .int) :: pgWd) ({ frames := 2, cells := 0, slots := 0, locals := 43 } : Room) (pgPc D (pgTys cD cC cI cZ cL) A (pgM D cI cZ A σ ρ th md) [.ref (md 0), .int d, .int c]) (va_Qi (fun (r : Int32) (_ : Unit) => (sp_pack σ d c).1 = 0 → r = (sp_pack σ d c).2.1) (fun _ t9 => pgM D cI cZ A ((sp_pack σ d c).2.2) ρ (pgKB (sp_pack σ d c).1) md t9.heap) A) 0 0 A := by
  refine pg_enter (own := RX3) (by decide) rfl (Nat.le_of_ble_eq_true rfl) (fun p e s m below meth cc9 B hr hnm => ?_)
  refine j_fact (fun H h => pgM.inA h) (fun hIn => ?_)
  refine j_aload_n B dX3_pack_0 0 rfl rfl ?_
  refine j_iload_n B dX3_pack_1 1 rfl rfl ?_
  refine j_cVi B (S := Unit) 1 [.int d] (WdC' := fun _ => pgM D cI cZ A σ ρ th md) (fun _ => pgM D cI cZ A σ ρ th md) (c_X3_isDisk l D cD cC cI cZ cL A σ ρ th md n hI d) rfl (fun H h => pgM.m h) q_587 q_589 q_p7 q_3 q_590 hdX3_isDisk rfl ⟨Nat.le_of_ble_eq_true rfl, Nat.le_of_ble_eq_true rfl⟩ (Nat.le_of_ble_eq_true rfl) dX3_pack_2 rfl ⟨Nat.le_of_ble_eq_true rfl, Nat.le_of_ble_eq_true rfl⟩ (fun _ h => h) (fun _ _ _ _ h => h) (fun _ h => h) (fun _ _ _ _ h _ _ => h) (fun r1 _ hp2 => ?_)
  by_cases h3 : pgIsD σ d
  · obtain rfl : r1 = 1 := by rw [hp2]; exact if_pos h3
    refine j_if_eq B 19 dX3_pack_5 (by decide) (fun h4 => (absurd h4 (by decide))) (fun h4 => ?_)
    refine j_iload_n B dX3_pack_8 2 rfl rfl ?_
    refine j_cSi B (S := Unit) 1 [.int c] (WdC' := fun _ => pgM D cI cZ A σ ρ th md) (fun _ => pgM D cI cZ A σ ρ th md) (c_X3_isCrate l D cD cC cI cZ cL A σ ρ th md c) q_607 q_608 q_3 q_609 hdX3_isCrate rfl ⟨Nat.le_of_ble_eq_true rfl, Nat.le_of_ble_eq_true rfl⟩ (Nat.le_of_ble_eq_true rfl) dX3_pack_9 rfl ⟨Nat.le_of_ble_eq_true rfl, Nat.le_of_ble_eq_true rfl⟩ (fun _ h => h) (fun _ _ _ _ h => h) (fun _ h => h) (fun _ _ _ _ h _ _ => h) (fun r5 _ hp6 => ?_)
    by_cases h7 : pgIsC c
    · obtain rfl : r5 = 1 := by rw [hp6]; exact if_pos h7
      refine j_if_eq B 19 dX3_pack_12 (by decide) (fun h8 => (absurd h8 (by decide))) (fun h8 => ?_)
      refine j_iconst B (v := 1) dX3_pack_15 (by decide) ?_
      refine j_goto B 20 dX3_pack_16 (by decide) ?_
      refine j_istore_n B (L' := [(3, .int 1), (0, .ref (md 0)), (1, .int d), (2, .int c)]) dX3_pack_20 rfl (by decide) rfl ?_
      refine j_iload_n B dX3_pack_21 0 rfl rfl ?_
      refine j_if_eq B 72 dX3_pack_22 (by decide) (fun h9 => (absurd h9 (by decide))) (fun h9 => ?_)
      refine j_aload_n B dX3_pack_25 1 rfl rfl ?_
      refine j_iload_n B dX3_pack_26 2 rfl rfl ?_
      refine j_cVi B (S := Unit) 1 [.int d] (WdC' := fun _ => pgM D cI cZ A σ ρ th md) (fun _ => pgM D cI cZ A σ ρ th md) (c_X3_isBarred l D cD cC cI cZ cL A σ ρ th md n hI d h3) rfl (fun H h => pgM.m h) q_591 q_593 q_p8 q_3 q_594 hdX3_isBarred rfl ⟨Nat.le_of_ble_eq_true rfl, Nat.le_of_ble_eq_true rfl⟩ (Nat.le_of_ble_eq_true rfl) dX3_pack_27 rfl ⟨Nat.le_of_ble_eq_true rfl, Nat.le_of_ble_eq_true rfl⟩ (fun _ h => h) (fun _ _ _ _ h => h) (fun _ h => h) (fun _ _ _ _ h _ _ => h) (fun r10 _ hp11 => ?_)
      by_cases h12 : ¬ pgReach σ (ix d)
      · obtain rfl : r10 = 1 := by rw [hp11]; exact if_pos h12
        refine j_if_ne B 72 dX3_pack_30 (by decide) (fun h13 => ?_) (fun h13 => (absurd h13 (by decide)))
        refine j_iconst B (v := 0) dX3_pack_72 (by decide) ?_
        refine j_istore B (L' := [(4, .int 0), (3, .int 1), (0, .ref (md 0)), (1, .int d), (2, .int c)]) dX3_pack_73 (by decide) rfl ?_
        refine j_aload_n B dX3_pack_75 2 rfl rfl ?_
        refine j_iload_n B dX3_pack_76 1 rfl rfl ?_
        refine j_if_ne B 84 dX3_pack_77 (by decide) (fun h14 => ?_) (fun h14 => (absurd h14 (by decide)))
        refine j_iload B dX3_pack_84 0 rfl ?_
        refine j_if_eq B 93 dX3_pack_86 (by decide) (fun h15 => ?_) (fun h15 => (absurd (by decide) h15))
        refine j_iconst B (v := 2) dX3_pack_93 (by decide) ?_
        refine j_cVi B (S := Unit) 1 [.int 2] (WdC' := fun _ => pgM D cI cZ A σ ρ 2 md) (fun _ => pgM D cI cZ A σ ρ 2 md) (c_X3_can l D cD cC cI cZ cL A σ ρ th md 2) rfl (fun H h => pgM.m h) q_579 q_581 q_p6 q_3 q_582 hdX3_can rfl ⟨Nat.le_of_ble_eq_true rfl, Nat.le_of_ble_eq_true rfl⟩ (Nat.le_of_ble_eq_true rfl) dX3_pack_94 rfl ⟨Nat.le_of_ble_eq_true rfl, Nat.le_of_ble_eq_true rfl⟩ (fun _ h => h) (fun _ _ _ _ h => h) (fun _ h => h) (fun _ _ _ _ h _ _ => h) (fun r16 _ hp17 => ?_)
        obtain rfl : r16 = 0 := by rw [hp17]; rfl
        refine j_if_ne B 102 dX3_pack_97 (by decide) (fun h18 => (absurd (by decide) h18)) (fun h18 => ?_)
        refine j_iconst B (v := 0) dX3_pack_100 (by decide) ?_
        have e1 : (sp_pack σ d c).1 = 3 := by
          simp only [sp_pack]; grind
        have e2 : (sp_pack σ d c).2.2 = σ := by
          simp only [sp_pack]; grind
        exact j_iret B hr rfl dX3_pack_101 (Nat.le_of_ble_eq_true rfl) (Nat.le_of_ble_eq_true rfl) () (by rw [e1]; exact fun h => absurd h (by decide)) (fun H h => by rw [e1, e2]; exact h)
      · obtain rfl : r10 = 0 := by rw [hp11]; exact if_neg h12
        refine j_if_ne B 72 dX3_pack_30 (by decide) (fun h19 => (absurd (by decide) h19)) (fun h19 => ?_)
        refine j_aload_n B dX3_pack_33 1 rfl rfl ?_
        refine j_get B (v := .ref (md 4)) pgX3 rfl (fun H h => pgM.m h) 4 (by decide) q_509 rfl rfl dX3_pack_34 ?_
        refine j_iload_n B dX3_pack_37 2 rfl rfl ?_
        refine j_ialdv B (fun H h => pgM.a4 h) 2 rfl (pg_inD hI h3) (v := σ 3 (ix d)) rfl dX3_pack_38 ?_
        refine j_iconst B (v := (-1)) dX3_pack_39 (by decide) ?_
        refine j_icmp_ne B 72 dX3_pack_40 (by decide) (fun h20 => ?_) (fun h20 => ?_)
        · refine j_iconst B (v := 0) dX3_pack_72 (by decide) ?_
          refine j_istore B (L' := [(4, .int 0), (3, .int 1), (0, .ref (md 0)), (1, .int d), (2, .int c)]) dX3_pack_73 (by decide) rfl ?_
          refine j_aload_n B dX3_pack_75 2 rfl rfl ?_
          refine j_iload_n B dX3_pack_76 1 rfl rfl ?_
          refine j_if_ne B 84 dX3_pack_77 (by decide) (fun h21 => ?_) (fun h21 => (absurd h21 (by decide)))
          refine j_iload B dX3_pack_84 0 rfl ?_
          refine j_if_eq B 93 dX3_pack_86 (by decide) (fun h22 => ?_) (fun h22 => (absurd (by decide) h22))
          refine j_iconst B (v := 2) dX3_pack_93 (by decide) ?_
          refine j_cVi B (S := Unit) 1 [.int 2] (WdC' := fun _ => pgM D cI cZ A σ ρ 2 md) (fun _ => pgM D cI cZ A σ ρ 2 md) (c_X3_can l D cD cC cI cZ cL A σ ρ th md 2) rfl (fun H h => pgM.m h) q_579 q_581 q_p6 q_3 q_582 hdX3_can rfl ⟨Nat.le_of_ble_eq_true rfl, Nat.le_of_ble_eq_true rfl⟩ (Nat.le_of_ble_eq_true rfl) dX3_pack_94 rfl ⟨Nat.le_of_ble_eq_true rfl, Nat.le_of_ble_eq_true rfl⟩ (fun _ h => h) (fun _ _ _ _ h => h) (fun _ h => h) (fun _ _ _ _ h _ _ => h) (fun r23 _ hp24 => ?_)
          obtain rfl : r23 = 0 := by rw [hp24]; rfl
          refine j_if_ne B 102 dX3_pack_97 (by decide) (fun h25 => (absurd (by decide) h25)) (fun h25 => ?_)
          refine j_iconst B (v := 0) dX3_pack_100 (by decide) ?_
          have e1 : (sp_pack σ d c).1 = 3 := by
            simp only [sp_pack]; grind
          have e2 : (sp_pack σ d c).2.2 = σ := by
            simp only [sp_pack]; grind
          exact j_iret B hr rfl dX3_pack_101 (Nat.le_of_ble_eq_true rfl) (Nat.le_of_ble_eq_true rfl) () (by rw [e1]; exact fun h => absurd h (by decide)) (fun H h => by rw [e1, e2]; exact h)
        · refine j_aload_n B dX3_pack_43 1 rfl rfl ?_
          refine j_get B (v := .ref (md 12)) pgX3 rfl (fun H h => pgM.m h) 12 (by decide) q_517 rfl rfl dX3_pack_44 ?_
          refine j_iload_n B dX3_pack_47 3 rfl rfl ?_
          refine j_ialdv B (fun H h => pgM.a12 h) 2 rfl (pg_inC h7) (v := σ 11 (ix c)) rfl dX3_pack_48 ?_
          refine j_iconst B (v := (-1)) dX3_pack_49 (by decide) ?_
          refine j_icmp_ne B 72 dX3_pack_50 (by decide) (fun h26 => ?_) (fun h26 => ?_)
          · refine j_iconst B (v := 0) dX3_pack_72 (by decide) ?_
            refine j_istore B (L' := [(4, .int 0), (3, .int 1), (0, .ref (md 0)), (1, .int d), (2, .int c)]) dX3_pack_73 (by decide) rfl ?_
            refine j_aload_n B dX3_pack_75 2 rfl rfl ?_
            refine j_iload_n B dX3_pack_76 1 rfl rfl ?_
            refine j_if_ne B 84 dX3_pack_77 (by decide) (fun h27 => ?_) (fun h27 => (absurd h27 (by decide)))
            refine j_iload B dX3_pack_84 0 rfl ?_
            refine j_if_eq B 93 dX3_pack_86 (by decide) (fun h28 => ?_) (fun h28 => (absurd (by decide) h28))
            refine j_iconst B (v := 2) dX3_pack_93 (by decide) ?_
            refine j_cVi B (S := Unit) 1 [.int 2] (WdC' := fun _ => pgM D cI cZ A σ ρ 2 md) (fun _ => pgM D cI cZ A σ ρ 2 md) (c_X3_can l D cD cC cI cZ cL A σ ρ th md 2) rfl (fun H h => pgM.m h) q_579 q_581 q_p6 q_3 q_582 hdX3_can rfl ⟨Nat.le_of_ble_eq_true rfl, Nat.le_of_ble_eq_true rfl⟩ (Nat.le_of_ble_eq_true rfl) dX3_pack_94 rfl ⟨Nat.le_of_ble_eq_true rfl, Nat.le_of_ble_eq_true rfl⟩ (fun _ h => h) (fun _ _ _ _ h => h) (fun _ h => h) (fun _ _ _ _ h _ _ => h) (fun r29 _ hp30 => ?_)
            obtain rfl : r29 = 0 := by rw [hp30]; rfl
            refine j_if_ne B 102 dX3_pack_97 (by decide) (fun h31 => (absurd (by decide) h31)) (fun h31 => ?_)
            refine j_iconst B (v := 0) dX3_pack_100 (by decide) ?_
            have e1 : (sp_pack σ d c).1 = 3 := by
              simp only [sp_pack]; grind
            have e2 : (sp_pack σ d c).2.2 = σ := by
              simp only [sp_pack]; grind
            exact j_iret B hr rfl dX3_pack_101 (Nat.le_of_ble_eq_true rfl) (Nat.le_of_ble_eq_true rfl) () (by rw [e1]; exact fun h => absurd h (by decide)) (fun H h => by rw [e1, e2]; exact h)
          · refine j_aload_n B dX3_pack_53 1 rfl rfl ?_
            refine j_get B (v := .ref (md 11)) pgX3 rfl (fun H h => pgM.m h) 11 (by decide) q_516 rfl rfl dX3_pack_54 ?_
            refine j_iload_n B dX3_pack_57 3 rfl rfl ?_
            refine j_ialdv B (fun H h => pgM.a11 h) 2 rfl (pg_inC h7) (v := σ 10 (ix c)) rfl dX3_pack_58 ?_
            refine j_aload_n B dX3_pack_59 1 rfl rfl ?_
            refine j_get B (v := .ref (md 3)) pgX3 rfl (fun H h => pgM.m h) 3 (by decide) q_508 rfl rfl dX3_pack_60 ?_
            refine j_iload_n B dX3_pack_63 2 rfl rfl ?_
            refine j_ialdv B (fun H h => pgM.a3 h) 2 rfl (pg_inD hI h3) (v := σ 2 (ix d)) rfl dX3_pack_64 ?_
            refine j_icmp_ne B 72 dX3_pack_65 (by decide) (fun h32 => ?_) (fun h32 => ?_)
            · refine j_iconst B (v := 0) dX3_pack_72 (by decide) ?_
              refine j_istore B (L' := [(4, .int 0), (3, .int 1), (0, .ref (md 0)), (1, .int d), (2, .int c)]) dX3_pack_73 (by decide) rfl ?_
              refine j_aload_n B dX3_pack_75 2 rfl rfl ?_
              refine j_iload_n B dX3_pack_76 1 rfl rfl ?_
              refine j_if_ne B 84 dX3_pack_77 (by decide) (fun h33 => ?_) (fun h33 => (absurd h33 (by decide)))
              refine j_iload B dX3_pack_84 0 rfl ?_
              refine j_if_eq B 93 dX3_pack_86 (by decide) (fun h34 => ?_) (fun h34 => (absurd (by decide) h34))
              refine j_iconst B (v := 2) dX3_pack_93 (by decide) ?_
              refine j_cVi B (S := Unit) 1 [.int 2] (WdC' := fun _ => pgM D cI cZ A σ ρ 2 md) (fun _ => pgM D cI cZ A σ ρ 2 md) (c_X3_can l D cD cC cI cZ cL A σ ρ th md 2) rfl (fun H h => pgM.m h) q_579 q_581 q_p6 q_3 q_582 hdX3_can rfl ⟨Nat.le_of_ble_eq_true rfl, Nat.le_of_ble_eq_true rfl⟩ (Nat.le_of_ble_eq_true rfl) dX3_pack_94 rfl ⟨Nat.le_of_ble_eq_true rfl, Nat.le_of_ble_eq_true rfl⟩ (fun _ h => h) (fun _ _ _ _ h => h) (fun _ h => h) (fun _ _ _ _ h _ _ => h) (fun r35 _ hp36 => ?_)
              obtain rfl : r35 = 0 := by rw [hp36]; rfl
              refine j_if_ne B 102 dX3_pack_97 (by decide) (fun h37 => (absurd (by decide) h37)) (fun h37 => ?_)
              refine j_iconst B (v := 0) dX3_pack_100 (by decide) ?_
              have e1 : (sp_pack σ d c).1 = 3 := by
                simp only [sp_pack]; grind
              have e2 : (sp_pack σ d c).2.2 = σ := by
                simp only [sp_pack]; grind
              exact j_iret B hr rfl dX3_pack_101 (Nat.le_of_ble_eq_true rfl) (Nat.le_of_ble_eq_true rfl) () (by rw [e1]; exact fun h => absurd h (by decide)) (fun H h => by rw [e1, e2]; exact h)
            · refine j_iconst B (v := 1) dX3_pack_68 (by decide) ?_
              refine j_goto B 73 dX3_pack_69 (by decide) ?_
              refine j_istore B (L' := [(4, .int 1), (3, .int 1), (0, .ref (md 0)), (1, .int d), (2, .int c)]) dX3_pack_73 (by decide) rfl ?_
              refine j_aload_n B dX3_pack_75 2 rfl rfl ?_
              refine j_iload_n B dX3_pack_76 1 rfl rfl ?_
              refine j_if_ne B 84 dX3_pack_77 (by decide) (fun h38 => ?_) (fun h38 => (absurd h38 (by decide)))
              refine j_iload B dX3_pack_84 0 rfl ?_
              refine j_if_eq B 93 dX3_pack_86 (by decide) (fun h39 => (absurd h39 (by decide))) (fun h39 => ?_)
              refine j_iconst B (v := 0) dX3_pack_89 (by decide) ?_
              refine j_goto B 94 dX3_pack_90 (by decide) ?_
              refine j_cVi B (S := Unit) 1 [.int 0] (WdC' := fun _ => pgM D cI cZ A σ ρ 0 md) (fun _ => pgM D cI cZ A σ ρ 0 md) (c_X3_can l D cD cC cI cZ cL A σ ρ th md 0) rfl (fun H h => pgM.m h) q_579 q_581 q_p6 q_3 q_582 hdX3_can rfl ⟨Nat.le_of_ble_eq_true rfl, Nat.le_of_ble_eq_true rfl⟩ (Nat.le_of_ble_eq_true rfl) dX3_pack_94 rfl ⟨Nat.le_of_ble_eq_true rfl, Nat.le_of_ble_eq_true rfl⟩ (fun _ h => h) (fun _ _ _ _ h => h) (fun _ h => h) (fun _ _ _ _ h _ _ => h) (fun r40 _ hp41 => ?_)
              obtain rfl : r40 = 1 := by rw [hp41]; rfl
              refine j_if_ne B 102 dX3_pack_97 (by decide) (fun h42 => ?_) (fun h42 => (absurd h42 (by decide)))
              refine j_aload_n B dX3_pack_102 2 rfl rfl ?_
              refine j_get B (v := .ref (md 4)) pgX3 rfl (fun H h => pgM.m h) 4 (by decide) q_509 rfl rfl dX3_pack_103 ?_
              refine j_iload_n B dX3_pack_106 3 rfl rfl ?_
              refine j_iload_n B dX3_pack_107 4 rfl rfl ?_
              refine j_iast B (Wd' := pgM D cI cZ A (pgU σ 3 (ix d) c) ρ 0 md) (fun H h => pgM.a4 h) 2 rfl (pg_inD hI h3) dX3_pack_108 (hIn 4 (by omega)) (fun H H1 h hc hz ho => pgM.putA h (by decide) (pgMx rfl rfl (by decide)) hc ho) ?_
              refine j_aload_n B dX3_pack_109 2 rfl rfl ?_
              refine j_iload_n B dX3_pack_110 4 rfl rfl ?_
              refine j_cVi B (S := Unit) 1 [.int c] (WdC' := fun _ => pgM D cI cZ A (pgU σ 3 (ix d) c) ρ 0 md) (fun _ => pgM D cI cZ A (pgU σ 3 (ix d) c) ρ 0 md) (c_X3_countIn l D cD cC cI cZ cL A (pgU σ 3 (ix d) c) ρ 0 md n hI.1 hI.2.1 c) rfl (fun H h => pgM.m h) q_610 q_612 q_p10 q_3 q_613 hdX3_countIn rfl ⟨Nat.le_of_ble_eq_true rfl, Nat.le_of_ble_eq_true rfl⟩ (Nat.le_of_ble_eq_true rfl) dX3_pack_111 rfl ⟨Nat.le_of_ble_eq_true rfl, Nat.le_of_ble_eq_true rfl⟩ (fun _ h => h) (fun _ _ _ _ h => h) (fun _ h => h) (fun _ _ _ _ h _ _ => h) (fun r43 _ hp44 => ?_)
              obtain rfl : r43 = pgCnt (pgU σ 3 (ix d) c) n c := hp44
              have hn7 := pgI_n hI
              have e9 : sp_pack σ d c = (0, pgCnt (pgU σ 3 (ix d) c) n c, pgU σ 3 (ix d) c) := by
                simp only [sp_pack, hn7]; grind
              exact j_iret B hr rfl dX3_pack_114 (Nat.le_of_ble_eq_true rfl) (Nat.le_of_ble_eq_true rfl) () (by rw [e9]; exact fun _ => rfl) (fun H h => by rw [e9]; exact pgM.sim h (pgSim.of fun _ _ _ => rfl))
    · obtain rfl : r5 = 0 := by rw [hp6]; exact if_neg h7
      refine j_if_eq B 19 dX3_pack_12 (by decide) (fun h45 => ?_) (fun h45 => (absurd (by decide) h45))
      refine j_iconst B (v := 0) dX3_pack_19 (by decide) ?_
      refine j_istore_n B (L' := [(3, .int 0), (0, .ref (md 0)), (1, .int d), (2, .int c)]) dX3_pack_20 rfl (by decide) rfl ?_
      refine j_iload_n B dX3_pack_21 0 rfl rfl ?_
      refine j_if_eq B 72 dX3_pack_22 (by decide) (fun h46 => ?_) (fun h46 => (absurd (by decide) h46))
      refine j_iconst B (v := 0) dX3_pack_72 (by decide) ?_
      refine j_istore B (L' := [(4, .int 0), (3, .int 0), (0, .ref (md 0)), (1, .int d), (2, .int c)]) dX3_pack_73 (by decide) rfl ?_
      refine j_aload_n B dX3_pack_75 2 rfl rfl ?_
      refine j_iload_n B dX3_pack_76 1 rfl rfl ?_
      refine j_if_ne B 84 dX3_pack_77 (by decide) (fun h47 => (absurd (by decide) h47)) (fun h47 => ?_)
      refine j_iconst B (v := 1) dX3_pack_80 (by decide) ?_
      refine j_goto B 94 dX3_pack_81 (by decide) ?_
      refine j_cVi B (S := Unit) 1 [.int 1] (WdC' := fun _ => pgM D cI cZ A σ ρ 1 md) (fun _ => pgM D cI cZ A σ ρ 1 md) (c_X3_can l D cD cC cI cZ cL A σ ρ th md 1) rfl (fun H h => pgM.m h) q_579 q_581 q_p6 q_3 q_582 hdX3_can rfl ⟨Nat.le_of_ble_eq_true rfl, Nat.le_of_ble_eq_true rfl⟩ (Nat.le_of_ble_eq_true rfl) dX3_pack_94 rfl ⟨Nat.le_of_ble_eq_true rfl, Nat.le_of_ble_eq_true rfl⟩ (fun _ h => h) (fun _ _ _ _ h => h) (fun _ h => h) (fun _ _ _ _ h _ _ => h) (fun r48 _ hp49 => ?_)
      obtain rfl : r48 = 0 := by rw [hp49]; rfl
      refine j_if_ne B 102 dX3_pack_97 (by decide) (fun h50 => (absurd (by decide) h50)) (fun h50 => ?_)
      refine j_iconst B (v := 0) dX3_pack_100 (by decide) ?_
      have e1 : (sp_pack σ d c).1 = 1 := by
        simp only [sp_pack]; grind
      have e2 : (sp_pack σ d c).2.2 = σ := by
        simp only [sp_pack]; grind
      exact j_iret B hr rfl dX3_pack_101 (Nat.le_of_ble_eq_true rfl) (Nat.le_of_ble_eq_true rfl) () (by rw [e1]; exact fun h => absurd h (by decide)) (fun H h => by rw [e1, e2]; exact h)
  · obtain rfl : r1 = 0 := by rw [hp2]; exact if_neg h3
    refine j_if_eq B 19 dX3_pack_5 (by decide) (fun h51 => ?_) (fun h51 => (absurd (by decide) h51))
    refine j_iconst B (v := 0) dX3_pack_19 (by decide) ?_
    refine j_istore_n B (L' := [(3, .int 0), (0, .ref (md 0)), (1, .int d), (2, .int c)]) dX3_pack_20 rfl (by decide) rfl ?_
    refine j_iload_n B dX3_pack_21 0 rfl rfl ?_
    refine j_if_eq B 72 dX3_pack_22 (by decide) (fun h52 => ?_) (fun h52 => (absurd (by decide) h52))
    refine j_iconst B (v := 0) dX3_pack_72 (by decide) ?_
    refine j_istore B (L' := [(4, .int 0), (3, .int 0), (0, .ref (md 0)), (1, .int d), (2, .int c)]) dX3_pack_73 (by decide) rfl ?_
    refine j_aload_n B dX3_pack_75 2 rfl rfl ?_
    refine j_iload_n B dX3_pack_76 1 rfl rfl ?_
    refine j_if_ne B 84 dX3_pack_77 (by decide) (fun h53 => (absurd (by decide) h53)) (fun h53 => ?_)
    refine j_iconst B (v := 1) dX3_pack_80 (by decide) ?_
    refine j_goto B 94 dX3_pack_81 (by decide) ?_
    refine j_cVi B (S := Unit) 1 [.int 1] (WdC' := fun _ => pgM D cI cZ A σ ρ 1 md) (fun _ => pgM D cI cZ A σ ρ 1 md) (c_X3_can l D cD cC cI cZ cL A σ ρ th md 1) rfl (fun H h => pgM.m h) q_579 q_581 q_p6 q_3 q_582 hdX3_can rfl ⟨Nat.le_of_ble_eq_true rfl, Nat.le_of_ble_eq_true rfl⟩ (Nat.le_of_ble_eq_true rfl) dX3_pack_94 rfl ⟨Nat.le_of_ble_eq_true rfl, Nat.le_of_ble_eq_true rfl⟩ (fun _ h => h) (fun _ _ _ _ h => h) (fun _ h => h) (fun _ _ _ _ h _ _ => h) (fun r54 _ hp55 => ?_)
    obtain rfl : r54 = 0 := by rw [hp55]; rfl
    refine j_if_ne B 102 dX3_pack_97 (by decide) (fun h56 => (absurd (by decide) h56)) (fun h56 => ?_)
    refine j_iconst B (v := 0) dX3_pack_100 (by decide) ?_
    have e1 : (sp_pack σ d c).1 = 1 := by
      simp only [sp_pack]; grind
    have e2 : (sp_pack σ d c).2.2 = σ := by
      simp only [sp_pack]; grind
    exact j_iret B hr rfl dX3_pack_101 (Nat.le_of_ble_eq_true rfl) (Nat.le_of_ble_eq_true rfl) () (by rw [e1]; exact fun h => absurd h (by decide)) (fun H h => by rw [e1, e2]; exact h)
set_option maxHeartbeats 4000000 in
set_option maxRecDepth 100000 in
/-- open -/
theorem c_X3_open (l : Launch) (D : va_G) (cD cC cI cZ cL : ClassId) (A : Nat → Prop) (σ : pgSt) (ρ : Nat → Int32) (th : Int32) (md : Nat → Nat) (n : Nat) (hI : pgI n σ) (c : Int32) (k0 : Int32) (hR : pgRho σ ρ) : Met l yX3_open (.code yX3_open cX3_open 4 (some .int) :: pgWd) ({ frames := 2, cells := 0, slots := 0, locals := 42 } : Room) (pgPc D (pgTys cD cC cI cZ cL) A (pgM D cI cZ A σ ρ th md) [.ref (md 0), .int c, .int k0]) (va_Qi (fun (r : Int32) (_ : Unit) => (sp_open σ c k0).1 = 0 → r = (sp_open σ c k0).2.1) (fun _ t9 => pgM D cI cZ A ((sp_open σ c k0).2.2) ρ (nI (sp_open σ c k0).1) md t9.heap) A) 0 0 A := by
  refine pg_enter (own := RX3) (by decide) rfl (Nat.le_of_ble_eq_true rfl) (fun p e s m below meth cc9 B hr hnm => ?_)
  refine j_fact (fun H h => pgM.inA h) (fun hIn => ?_)
  refine j_aload_n B dX3_open_0 0 rfl rfl ?_
  refine j_iload_n B dX3_open_1 1 rfl rfl ?_
  refine j_cSi B (S := Unit) 1 [.int c] (WdC' := fun _ => pgM D cI cZ A σ ρ th md) (fun _ => pgM D cI cZ A σ ρ th md) (c_X3_isCrate l D cD cC cI cZ cL A σ ρ th md c) q_607 q_608 q_3 q_609 hdX3_isCrate rfl ⟨Nat.le_of_ble_eq_true rfl, Nat.le_of_ble_eq_true rfl⟩ (Nat.le_of_ble_eq_true rfl) dX3_open_2 rfl ⟨Nat.le_of_ble_eq_true rfl, Nat.le_of_ble_eq_true rfl⟩ (fun _ h => h) (fun _ _ _ _ h => h) (fun _ h => h) (fun _ _ _ _ h _ _ => h) (fun r1 _ hp2 => ?_)
  by_cases h3 : pgIsC c
  · obtain rfl : r1 = 1 := by rw [hp2]; exact if_pos h3
    refine j_if_ne B 12 dX3_open_5 (by decide) (fun h4 => ?_) (fun h4 => (absurd h4 (by decide)))
    refine j_iload_n B dX3_open_12 2 rfl rfl ?_
    refine j_iconst B (v := 0) dX3_open_13 (by decide) ?_
    refine j_bipush B (v := 99) dX3_open_14 (by decide) ?_
    refine j_cSi B (S := Unit) 3 [.int k0, .int 0, .int 99] (WdC' := fun _ => pgM D cI cZ A σ ρ th md) (fun _ => pgM D cI cZ A σ ρ th md) (c_X3_isIn l D cD cC cI cZ cL A σ ρ th md k0 0 99) q_573 q_574 q_3 q_575 hdX3_isIn rfl ⟨Nat.le_of_ble_eq_true rfl, Nat.le_of_ble_eq_true rfl⟩ (Nat.le_of_ble_eq_true rfl) dX3_open_16 rfl ⟨Nat.le_of_ble_eq_true rfl, Nat.le_of_ble_eq_true rfl⟩ (fun _ h => h) (fun _ _ _ _ h => h) (fun _ h => h) (fun _ _ _ _ h _ _ => h) (fun r5 _ hp6 => ?_)
    by_cases h7 : 0 ≤ k0 ∧ k0 ≤ 99
    · obtain rfl : r5 = 1 := by rw [hp6]; exact if_pos h7
      refine j_if_ne B 26 dX3_open_19 (by decide) (fun h8 => ?_) (fun h8 => (absurd h8 (by decide)))
      refine j_aload_n B dX3_open_26 0 rfl rfl ?_
      refine j_get B (v := .ref (md 12)) pgX3 rfl (fun H h => pgM.m h) 12 (by decide) q_517 rfl rfl dX3_open_27 ?_
      refine j_iload_n B dX3_open_30 1 rfl rfl ?_
      refine j_ialdv B (fun H h => pgM.a12 h) 2 rfl (pg_inC h3) (v := σ 11 (ix c)) rfl dX3_open_31 ?_
      refine j_iconst B (v := (-1)) dX3_open_32 (by decide) ?_
      refine j_icmp_ne B 40 dX3_open_33 (by decide) (fun h9 => ?_) (fun h9 => ?_)
      · refine j_iconst B (v := 0) dX3_open_40 (by decide) ?_
        refine j_cVi B (S := Unit) 1 [.int 0] (WdC' := fun _ => pgM D cI cZ A σ ρ 0 md) (fun _ => pgM D cI cZ A σ ρ 0 md) (c_X3_can l D cD cC cI cZ cL A σ ρ th md 0) rfl (fun H h => pgM.m h) q_579 q_581 q_p6 q_3 q_582 hdX3_can rfl ⟨Nat.le_of_ble_eq_true rfl, Nat.le_of_ble_eq_true rfl⟩ (Nat.le_of_ble_eq_true rfl) dX3_open_41 rfl ⟨Nat.le_of_ble_eq_true rfl, Nat.le_of_ble_eq_true rfl⟩ (fun _ h => h) (fun _ _ _ _ h => h) (fun _ h => h) (fun _ _ _ _ h _ _ => h) (fun r10 _ hp11 => ?_)
        obtain rfl : r10 = 1 := by rw [hp11]; rfl
        refine j_if_ne B 49 dX3_open_44 (by decide) (fun h12 => ?_) (fun h12 => (absurd h12 (by decide)))
        refine j_iload_n B dX3_open_49 2 rfl rfl ?_
        refine j_aload_n B dX3_open_50 0 rfl rfl ?_
        refine j_get B (v := .ref (md 13)) pgX3 rfl (fun H h => pgM.m h) 13 (by decide) q_518 rfl rfl dX3_open_51 ?_
        refine j_aload_n B dX3_open_54 0 rfl rfl ?_
        refine j_get B (v := .ref (md 12)) pgX3 rfl (fun H h => pgM.m h) 12 (by decide) q_517 rfl rfl dX3_open_55 ?_
        refine j_iload_n B dX3_open_58 1 rfl rfl ?_
        refine j_ialdv B (fun H h => pgM.a12 h) 2 rfl (pg_inC h3) (v := σ 11 (ix c)) rfl dX3_open_59 ?_
        refine j_ialdv B (fun H h => pgM.a13 h) 2 rfl (pg_inS hI (pgIsC.at h3).1 (by assumption)).1 (v := σ 12 (ix c)) (pg_rho hI hR (pgIsC.at h3).1 (by assumption)) dX3_open_60 ?_
        refine j_isub B dX3_open_61 ?_
        refine j_istore_n B (L' := [(3, .int (k0 - (σ 12 (ix c)))), (0, .ref (md 0)), (1, .int c), (2, .int k0)]) dX3_open_62 rfl (by decide) rfl ?_
        refine j_aload_n B dX3_open_63 1 rfl rfl ?_
        refine j_get B (v := .ref (md 12)) pgX3 rfl (fun H h => pgM.m h) 12 (by decide) q_517 rfl rfl dX3_open_64 ?_
        refine j_iload_n B dX3_open_67 2 rfl rfl ?_
        refine j_iconst B (v := (-1)) dX3_open_68 (by decide) ?_
        refine j_iast B (Wd' := pgM D cI cZ A (pgU σ 11 (ix c) (-1)) ρ 0 md) (fun H h => pgM.a12 h) 2 rfl (pg_inC h3) dX3_open_69 (hIn 12 (by omega)) (fun H H1 h hc hz ho => pgM.putA h (by decide) (pgMx rfl rfl (by decide)) hc ho) ?_
        refine j_aload_n B dX3_open_70 1 rfl rfl ?_
        refine j_dup B dX3_open_71 rfl ?_
        refine j_get B (v := .int (σ 13 2)) pgX3 rfl (fun H h => pgM.m h) 15 (by decide) q_520 rfl rfl dX3_open_72 ?_
        refine j_iload_n B dX3_open_75 0 rfl rfl ?_
        refine j_if_ne B 83 dX3_open_76 (by decide) (fun h13 => ?_) (fun h13 => ?_)
        · refine j_iconst B (v := 1) dX3_open_83 (by decide) ?_
          refine j_iadd B dX3_open_84 ?_
          refine j_put B (Wd' := pgM D cI cZ A (pgU (pgU σ 11 (ix c) (-1)) 13 2 ((σ 13 2) + 1)) ρ 0 md) pgX3 tyX3 tyX3_ok nmX3 rfl (fun H h => pgM.m h) 15 (by decide) q_520 rfl rfl rfl rfl rfl (Nat.le_of_ble_eq_true rfl) dX3_open_85 (hIn 0 (by omega)) (fun H H1 h hc hz ho => pgM.putN h pgMs15 hc ho) ?_
          refine j_iload_n B dX3_open_88 0 rfl rfl ?_
          have e9 : sp_open σ c k0 = (0, (k0 - (σ 12 (ix c))), pgU (pgU σ 11 (ix c) (-1)) 13 2 (σ 13 2 + 1)) := by
            simp only [sp_open]; grind
          exact j_iret B hr rfl dX3_open_89 (Nat.le_of_ble_eq_true rfl) (Nat.le_of_ble_eq_true rfl) () (by rw [e9]; exact fun _ => rfl) (fun H h => by rw [e9]; exact pgM.sim h (pgSim.of fun t9 j9 h9 => by simp only [pgU, Int32.add_zero] <;> grind))
        · refine j_iconst B (v := 0) dX3_open_79 (by decide) ?_
          refine j_goto B 84 dX3_open_80 (by decide) ?_
          refine j_iadd B dX3_open_84 ?_
          refine j_put B (Wd' := pgM D cI cZ A (pgU (pgU σ 11 (ix c) (-1)) 13 2 ((σ 13 2) + 0)) ρ 0 md) pgX3 tyX3 tyX3_ok nmX3 rfl (fun H h => pgM.m h) 15 (by decide) q_520 rfl rfl rfl rfl rfl (Nat.le_of_ble_eq_true rfl) dX3_open_85 (hIn 0 (by omega)) (fun H H1 h hc hz ho => pgM.putN h pgMs15 hc ho) ?_
          refine j_iload_n B dX3_open_88 0 rfl rfl ?_
          have e9 : sp_open σ c k0 = (0, (k0 - (σ 12 (ix c))), pgU σ 11 (ix c) (-1)) := by
            simp only [sp_open]; grind
          exact j_iret B hr rfl dX3_open_89 (Nat.le_of_ble_eq_true rfl) (Nat.le_of_ble_eq_true rfl) () (by rw [e9]; exact fun _ => rfl) (fun H h => by rw [e9]; exact pgM.sim h (pgSim.of fun t9 j9 h9 => by simp only [pgU, Int32.add_zero] <;> grind))
      · refine j_iconst B (v := 3) dX3_open_36 (by decide) ?_
        refine j_goto B 41 dX3_open_37 (by decide) ?_
        refine j_cVi B (S := Unit) 1 [.int 3] (WdC' := fun _ => pgM D cI cZ A σ ρ 3 md) (fun _ => pgM D cI cZ A σ ρ 3 md) (c_X3_can l D cD cC cI cZ cL A σ ρ th md 3) rfl (fun H h => pgM.m h) q_579 q_581 q_p6 q_3 q_582 hdX3_can rfl ⟨Nat.le_of_ble_eq_true rfl, Nat.le_of_ble_eq_true rfl⟩ (Nat.le_of_ble_eq_true rfl) dX3_open_41 rfl ⟨Nat.le_of_ble_eq_true rfl, Nat.le_of_ble_eq_true rfl⟩ (fun _ h => h) (fun _ _ _ _ h => h) (fun _ h => h) (fun _ _ _ _ h _ _ => h) (fun r14 _ hp15 => ?_)
        obtain rfl : r14 = 0 := by rw [hp15]; rfl
        refine j_if_ne B 49 dX3_open_44 (by decide) (fun h16 => (absurd (by decide) h16)) (fun h16 => ?_)
        refine j_iconst B (v := 0) dX3_open_47 (by decide) ?_
        have e1 : (sp_open σ c k0).1 = 3 := by
          simp only [sp_open]; grind
        have e2 : (sp_open σ c k0).2.2 = σ := by
          simp only [sp_open]; grind
        exact j_iret B hr rfl dX3_open_48 (Nat.le_of_ble_eq_true rfl) (Nat.le_of_ble_eq_true rfl) () (by rw [e1]; exact fun h => absurd h (by decide)) (fun H h => by rw [e1, e2]; exact h)
    · obtain rfl : r5 = 0 := by rw [hp6]; exact if_neg h7
      refine j_if_ne B 26 dX3_open_19 (by decide) (fun h17 => (absurd (by decide) h17)) (fun h17 => ?_)
      refine j_iconst B (v := 2) dX3_open_22 (by decide) ?_
      refine j_goto B 41 dX3_open_23 (by decide) ?_
      refine j_cVi B (S := Unit) 1 [.int 2] (WdC' := fun _ => pgM D cI cZ A σ ρ 2 md) (fun _ => pgM D cI cZ A σ ρ 2 md) (c_X3_can l D cD cC cI cZ cL A σ ρ th md 2) rfl (fun H h => pgM.m h) q_579 q_581 q_p6 q_3 q_582 hdX3_can rfl ⟨Nat.le_of_ble_eq_true rfl, Nat.le_of_ble_eq_true rfl⟩ (Nat.le_of_ble_eq_true rfl) dX3_open_41 rfl ⟨Nat.le_of_ble_eq_true rfl, Nat.le_of_ble_eq_true rfl⟩ (fun _ h => h) (fun _ _ _ _ h => h) (fun _ h => h) (fun _ _ _ _ h _ _ => h) (fun r18 _ hp19 => ?_)
      obtain rfl : r18 = 0 := by rw [hp19]; rfl
      refine j_if_ne B 49 dX3_open_44 (by decide) (fun h20 => (absurd (by decide) h20)) (fun h20 => ?_)
      refine j_iconst B (v := 0) dX3_open_47 (by decide) ?_
      have e1 : (sp_open σ c k0).1 = 2 := by
        simp only [sp_open]; grind
      have e2 : (sp_open σ c k0).2.2 = σ := by
        simp only [sp_open]; grind
      exact j_iret B hr rfl dX3_open_48 (Nat.le_of_ble_eq_true rfl) (Nat.le_of_ble_eq_true rfl) () (by rw [e1]; exact fun h => absurd h (by decide)) (fun H h => by rw [e1, e2]; exact h)
  · obtain rfl : r1 = 0 := by rw [hp2]; exact if_neg h3
    refine j_if_ne B 12 dX3_open_5 (by decide) (fun h21 => (absurd (by decide) h21)) (fun h21 => ?_)
    refine j_iconst B (v := 1) dX3_open_8 (by decide) ?_
    refine j_goto B 41 dX3_open_9 (by decide) ?_
    refine j_cVi B (S := Unit) 1 [.int 1] (WdC' := fun _ => pgM D cI cZ A σ ρ 1 md) (fun _ => pgM D cI cZ A σ ρ 1 md) (c_X3_can l D cD cC cI cZ cL A σ ρ th md 1) rfl (fun H h => pgM.m h) q_579 q_581 q_p6 q_3 q_582 hdX3_can rfl ⟨Nat.le_of_ble_eq_true rfl, Nat.le_of_ble_eq_true rfl⟩ (Nat.le_of_ble_eq_true rfl) dX3_open_41 rfl ⟨Nat.le_of_ble_eq_true rfl, Nat.le_of_ble_eq_true rfl⟩ (fun _ h => h) (fun _ _ _ _ h => h) (fun _ h => h) (fun _ _ _ _ h _ _ => h) (fun r22 _ hp23 => ?_)
    obtain rfl : r22 = 0 := by rw [hp23]; rfl
    refine j_if_ne B 49 dX3_open_44 (by decide) (fun h24 => (absurd (by decide) h24)) (fun h24 => ?_)
    refine j_iconst B (v := 0) dX3_open_47 (by decide) ?_
    have e1 : (sp_open σ c k0).1 = 1 := by
      simp only [sp_open]; grind
    have e2 : (sp_open σ c k0).2.2 = σ := by
      simp only [sp_open]; grind
    exact j_iret B hr rfl dX3_open_48 (Nat.le_of_ble_eq_true rfl) (Nat.le_of_ble_eq_true rfl) () (by rw [e1]; exact fun h => absurd h (by decide)) (fun H h => by rw [e1, e2]; exact h)
set_option maxHeartbeats 4000000 in
set_option maxRecDepth 100000 in
/-- seal -/
theorem c_X3_seal (l : Launch) (D : va_G) (cD cC cI cZ cL : ClassId) (A : Nat → Prop) (σ : pgSt) (ρ : Nat → Int32) (th : Int32) (md : Nat → Nat) (n : Nat) (hI : pgI n σ) (c : Int32) : Met l yX3_seal (.code yX3_seal cX3_seal 2 (some .int) :: pgWd) ({ frames := 2, cells := 0, slots := 0, locals := 42 } : Room) (pgPc D (pgTys cD cC cI cZ cL) A (pgM D cI cZ A σ ρ th md) [.ref (md 0), .int c]) (va_Qi (fun (r : Int32) (_ : Unit) => (sp_seal σ c).1 = 0 → r = (sp_seal σ c).2.1) (fun _ t9 => pgM D cI cZ A ((sp_seal σ c).2.2) (if (sp_seal σ c).1 = 0 then upd ρ (ix (σ 13 1)) (pgCnt σ (ix (σ 13 0)) c) else ρ) (pgKB (sp_seal σ c).1) md t9.heap) A) 0 0 A := by
  refine pg_enter (own := RX3) (by decide) rfl (Nat.le_of_ble_eq_true rfl) (fun p e s m below meth cc9 B hr hnm => ?_)
  refine j_fact (fun H h => pgM.inA h) (fun hIn => ?_)
  refine j_aload_n B dX3_seal_0 0 rfl rfl ?_
  refine j_iload_n B dX3_seal_1 1 rfl rfl ?_
  refine j_cSi B (S := Unit) 1 [.int c] (WdC' := fun _ => pgM D cI cZ A σ ρ th md) (fun _ => pgM D cI cZ A σ ρ th md) (c_X3_isCrate l D cD cC cI cZ cL A σ ρ th md c) q_607 q_608 q_3 q_609 hdX3_isCrate rfl ⟨Nat.le_of_ble_eq_true rfl, Nat.le_of_ble_eq_true rfl⟩ (Nat.le_of_ble_eq_true rfl) dX3_seal_2 rfl ⟨Nat.le_of_ble_eq_true rfl, Nat.le_of_ble_eq_true rfl⟩ (fun _ h => h) (fun _ _ _ _ h => h) (fun _ h => h) (fun _ _ _ _ h _ _ => h) (fun r1 _ hp2 => ?_)
  by_cases h3 : pgIsC c
  · obtain rfl : r1 = 1 := by rw [hp2]; exact if_pos h3
    refine j_if_ne B 12 dX3_seal_5 (by decide) (fun h4 => ?_) (fun h4 => (absurd h4 (by decide)))
    refine j_aload_n B dX3_seal_12 0 rfl rfl ?_
    refine j_get B (v := .ref (md 12)) pgX3 rfl (fun H h => pgM.m h) 12 (by decide) q_517 rfl rfl dX3_seal_13 ?_
    refine j_iload_n B dX3_seal_16 1 rfl rfl ?_
    refine j_ialdv B (fun H h => pgM.a12 h) 2 rfl (pg_inC h3) (v := σ 11 (ix c)) rfl dX3_seal_17 ?_
    refine j_iconst B (v := (-1)) dX3_seal_18 (by decide) ?_
    refine j_icmp_ne B 31 dX3_seal_19 (by decide) (fun h5 => ?_) (fun h5 => ?_)
    · refine j_iconst B (v := 2) dX3_seal_31 (by decide) ?_
      refine j_goto B 36 dX3_seal_32 (by decide) ?_
      refine j_cVi B (S := Unit) 1 [.int 2] (WdC' := fun _ => pgM D cI cZ A σ ρ 2 md) (fun _ => pgM D cI cZ A σ ρ 2 md) (c_X3_can l D cD cC cI cZ cL A σ ρ th md 2) rfl (fun H h => pgM.m h) q_579 q_581 q_p6 q_3 q_582 hdX3_can rfl ⟨Nat.le_of_ble_eq_true rfl, Nat.le_of_ble_eq_true rfl⟩ (Nat.le_of_ble_eq_true rfl) dX3_seal_36 rfl ⟨Nat.le_of_ble_eq_true rfl, Nat.le_of_ble_eq_true rfl⟩ (fun _ h => h) (fun _ _ _ _ h => h) (fun _ h => h) (fun _ _ _ _ h _ _ => h) (fun r6 _ hp7 => ?_)
      obtain rfl : r6 = 0 := by rw [hp7]; rfl
      refine j_if_ne B 44 dX3_seal_39 (by decide) (fun h8 => (absurd (by decide) h8)) (fun h8 => ?_)
      refine j_iconst B (v := 0) dX3_seal_42 (by decide) ?_
      have e1 : (sp_seal σ c).1 = 3 := by
        have q7 := (pgI_K hI).1
        simp only [sp_seal]; grind
      have e2 : (sp_seal σ c).2.2 = σ := by
        have q7 := (pgI_K hI).1
        simp only [sp_seal]; grind
      exact j_iret B hr rfl dX3_seal_43 (Nat.le_of_ble_eq_true rfl) (Nat.le_of_ble_eq_true rfl) () (by rw [e1]; exact fun h => absurd h (by decide)) (fun H h => by rw [e1, e2, if_neg (by decide)]; exact h)
    · refine j_aload_n B dX3_seal_22 0 rfl rfl ?_
      refine j_get B (v := .int (σ 13 1)) pgX3 rfl (fun H h => pgM.m h) 14 (by decide) q_519 rfl rfl dX3_seal_23 ?_
      refine j_bipush B (v := 100) dX3_seal_26 (by decide) ?_
      refine j_icmp_ne B 35 dX3_seal_28 (by decide) (fun h9 => ?_) (fun h9 => ?_)
      · refine j_iconst B (v := 0) dX3_seal_35 (by decide) ?_
        refine j_cVi B (S := Unit) 1 [.int 0] (WdC' := fun _ => pgM D cI cZ A σ ρ 0 md) (fun _ => pgM D cI cZ A σ ρ 0 md) (c_X3_can l D cD cC cI cZ cL A σ ρ th md 0) rfl (fun H h => pgM.m h) q_579 q_581 q_p6 q_3 q_582 hdX3_can rfl ⟨Nat.le_of_ble_eq_true rfl, Nat.le_of_ble_eq_true rfl⟩ (Nat.le_of_ble_eq_true rfl) dX3_seal_36 rfl ⟨Nat.le_of_ble_eq_true rfl, Nat.le_of_ble_eq_true rfl⟩ (fun _ h => h) (fun _ _ _ _ h => h) (fun _ h => h) (fun _ _ _ _ h _ _ => h) (fun r10 _ hp11 => ?_)
        obtain rfl : r10 = 1 := by rw [hp11]; rfl
        refine j_if_ne B 44 dX3_seal_39 (by decide) (fun h12 => ?_) (fun h12 => (absurd h12 (by decide)))
        have hb100 := (pgI_K hI).2 (by assumption)
        refine j_aload_n B dX3_seal_44 0 rfl rfl ?_
        refine j_get B (v := .ref (md 12)) pgX3 rfl (fun H h => pgM.m h) 12 (by decide) q_517 rfl rfl dX3_seal_45 ?_
        refine j_iload_n B dX3_seal_48 1 rfl rfl ?_
        refine j_aload_n B dX3_seal_49 0 rfl rfl ?_
        refine j_get B (v := .int (σ 13 1)) pgX3 rfl (fun H h => pgM.m h) 14 (by decide) q_519 rfl rfl dX3_seal_50 ?_
        refine j_iast B (Wd' := pgM D cI cZ A (pgU σ 11 (ix c) (σ 13 1)) ρ 0 md) (fun H h => pgM.a12 h) 2 rfl (pg_inC h3) dX3_seal_53 (hIn 12 (by omega)) (fun H H1 h hc hz ho => pgM.putA h (by decide) (pgMx rfl rfl (by decide)) hc ho) ?_
        refine j_aload_n B dX3_seal_54 0 rfl rfl ?_
        refine j_get B (v := .ref (md 13)) pgX3 rfl (fun H h => pgM.m h) 13 (by decide) q_518 rfl rfl dX3_seal_55 ?_
        refine j_aload_n B dX3_seal_58 0 rfl rfl ?_
        refine j_get B (v := .int (σ 13 1)) pgX3 rfl (fun H h => pgM.m h) 14 (by decide) q_519 rfl rfl dX3_seal_59 ?_
        refine j_aload_n B dX3_seal_62 0 rfl rfl ?_
        refine j_iload_n B dX3_seal_63 1 rfl rfl ?_
        refine j_cVi B (S := Unit) 1 [.int c] (WdC' := fun _ => pgM D cI cZ A (pgU σ 11 (ix c) (σ 13 1)) ρ 0 md) (fun _ => pgM D cI cZ A (pgU σ 11 (ix c) (σ 13 1)) ρ 0 md) (c_X3_countIn l D cD cC cI cZ cL A (pgU σ 11 (ix c) (σ 13 1)) ρ 0 md n hI.1 hI.2.1 c) rfl (fun H h => pgM.m h) q_610 q_612 q_p10 q_3 q_613 hdX3_countIn rfl ⟨Nat.le_of_ble_eq_true rfl, Nat.le_of_ble_eq_true rfl⟩ (Nat.le_of_ble_eq_true rfl) dX3_seal_64 rfl ⟨Nat.le_of_ble_eq_true rfl, Nat.le_of_ble_eq_true rfl⟩ (fun _ h => h) (fun _ _ _ _ h => h) (fun _ h => h) (fun _ _ _ _ h _ _ => h) (fun r13 _ hp14 => ?_)
        obtain rfl : r13 = pgCnt (pgU σ 11 (ix c) (σ 13 1)) n c := hp14
        refine j_iast B (Wd' := pgM D cI cZ A (pgU σ 11 (ix c) (σ 13 1)) (upd ρ (ix (σ 13 1)) (pgCnt (pgU σ 11 (ix c) (σ 13 1)) n c)) 0 md) (fun H h => pgM.a13 h) 2 rfl hb100 dX3_seal_67 (hIn 13 (by omega)) (fun H H1 h hc hz ho => pgM.putR h hc ho) ?_
        refine j_aload_n B dX3_seal_68 0 rfl rfl ?_
        refine j_dup B dX3_seal_69 rfl ?_
        refine j_get B (v := .int (σ 13 1)) pgX3 rfl (fun H h => pgM.m h) 14 (by decide) q_519 rfl rfl dX3_seal_70 ?_
        refine j_iconst B (v := 1) dX3_seal_73 (by decide) ?_
        refine j_iadd B dX3_seal_74 ?_
        refine j_put B (Wd' := pgM D cI cZ A (pgU (pgU σ 11 (ix c) (σ 13 1)) 13 1 ((σ 13 1) + 1)) (upd ρ (ix (σ 13 1)) (pgCnt (pgU σ 11 (ix c) (σ 13 1)) n c)) 0 md) pgX3 tyX3 tyX3_ok nmX3 rfl (fun H h => pgM.m h) 14 (by decide) q_519 rfl rfl rfl rfl rfl (Nat.le_of_ble_eq_true rfl) dX3_seal_75 (hIn 0 (by omega)) (fun H H1 h hc hz ho => pgM.putN h pgMs14 hc ho) ?_
        refine j_aload_n B dX3_seal_78 0 rfl rfl ?_
        refine j_get B (v := .int ((σ 13 1) + 1)) pgX3 rfl (fun H h => pgM.m h) 14 (by decide) q_519 rfl (by simp [pgU]) dX3_seal_79 ?_
        refine j_iconst B (v := 1) dX3_seal_82 (by decide) ?_
        refine j_isub B dX3_seal_83 ?_
        have hn7 := pgI_n hI
        have q9 : σ 13 1 + 1 - 1 = σ 13 1 := Int32.add_sub_cancel _ _
        have q8 : pgCnt (pgU σ 11 (ix c) (σ 13 1)) n c = pgCnt σ n c := by simp only [pgCnt, pgU_ne (show (3 : Nat) ≠ 11 by decide)]
        have e9 : sp_seal σ c = (0, σ 13 1, pgU (pgU (pgU σ 11 (ix c) (σ 13 1)) 12 (ix c) (pgCnt σ n c)) 13 1 (σ 13 1 + 1)) := by
          have q7 := (pgI_K hI).1
          simp only [sp_seal, hn7]; grind
        exact j_iret B hr rfl dX3_seal_84 (Nat.le_of_ble_eq_true rfl) (Nat.le_of_ble_eq_true rfl) () (by rw [e9]; exact fun _ => q9) (fun H h => by rw [e9, if_pos rfl, hn7, ← q8]; exact pgM.sim h (pgSim.of fun t9 j9 h9 => by simp only [pgU] <;> grind))
      · refine j_iconst B (v := 2) dX3_seal_31 (by decide) ?_
        refine j_goto B 36 dX3_seal_32 (by decide) ?_
        refine j_cVi B (S := Unit) 1 [.int 2] (WdC' := fun _ => pgM D cI cZ A σ ρ 2 md) (fun _ => pgM D cI cZ A σ ρ 2 md) (c_X3_can l D cD cC cI cZ cL A σ ρ th md 2) rfl (fun H h => pgM.m h) q_579 q_581 q_p6 q_3 q_582 hdX3_can rfl ⟨Nat.le_of_ble_eq_true rfl, Nat.le_of_ble_eq_true rfl⟩ (Nat.le_of_ble_eq_true rfl) dX3_seal_36 rfl ⟨Nat.le_of_ble_eq_true rfl, Nat.le_of_ble_eq_true rfl⟩ (fun _ h => h) (fun _ _ _ _ h => h) (fun _ h => h) (fun _ _ _ _ h _ _ => h) (fun r15 _ hp16 => ?_)
        obtain rfl : r15 = 0 := by rw [hp16]; rfl
        refine j_if_ne B 44 dX3_seal_39 (by decide) (fun h17 => (absurd (by decide) h17)) (fun h17 => ?_)
        refine j_iconst B (v := 0) dX3_seal_42 (by decide) ?_
        have e1 : (sp_seal σ c).1 = 3 := by
          have q7 := (pgI_K hI).1
          simp only [sp_seal]; grind
        have e2 : (sp_seal σ c).2.2 = σ := by
          have q7 := (pgI_K hI).1
          simp only [sp_seal]; grind
        exact j_iret B hr rfl dX3_seal_43 (Nat.le_of_ble_eq_true rfl) (Nat.le_of_ble_eq_true rfl) () (by rw [e1]; exact fun h => absurd h (by decide)) (fun H h => by rw [e1, e2, if_neg (by decide)]; exact h)
  · obtain rfl : r1 = 0 := by rw [hp2]; exact if_neg h3
    refine j_if_ne B 12 dX3_seal_5 (by decide) (fun h18 => (absurd (by decide) h18)) (fun h18 => ?_)
    refine j_iconst B (v := 1) dX3_seal_8 (by decide) ?_
    refine j_goto B 36 dX3_seal_9 (by decide) ?_
    refine j_cVi B (S := Unit) 1 [.int 1] (WdC' := fun _ => pgM D cI cZ A σ ρ 1 md) (fun _ => pgM D cI cZ A σ ρ 1 md) (c_X3_can l D cD cC cI cZ cL A σ ρ th md 1) rfl (fun H h => pgM.m h) q_579 q_581 q_p6 q_3 q_582 hdX3_can rfl ⟨Nat.le_of_ble_eq_true rfl, Nat.le_of_ble_eq_true rfl⟩ (Nat.le_of_ble_eq_true rfl) dX3_seal_36 rfl ⟨Nat.le_of_ble_eq_true rfl, Nat.le_of_ble_eq_true rfl⟩ (fun _ h => h) (fun _ _ _ _ h => h) (fun _ h => h) (fun _ _ _ _ h _ _ => h) (fun r19 _ hp20 => ?_)
    obtain rfl : r19 = 0 := by rw [hp20]; rfl
    refine j_if_ne B 44 dX3_seal_39 (by decide) (fun h21 => (absurd (by decide) h21)) (fun h21 => ?_)
    refine j_iconst B (v := 0) dX3_seal_42 (by decide) ?_
    have e1 : (sp_seal σ c).1 = 1 := by
      have q7 := (pgI_K hI).1
      simp only [sp_seal]; grind
    have e2 : (sp_seal σ c).2.2 = σ := by
      have q7 := (pgI_K hI).1
      simp only [sp_seal]; grind
    exact j_iret B hr rfl dX3_seal_43 (Nat.le_of_ble_eq_true rfl) (Nat.le_of_ble_eq_true rfl) () (by rw [e1]; exact fun h => absurd h (by decide)) (fun H h => by rw [e1, e2, if_neg (by decide)]; exact h)
set_option maxHeartbeats 4000000 in
set_option maxRecDepth 100000 in
/-- bring -/
theorem c_X3_bring (l : Launch) (D : va_G) (cD cC cI cZ cL : ClassId) (A : Nat → Prop) (σ : pgSt) (ρ : Nat → Int32) (th : Int32) (md : Nat → Nat) (n : Nat) (hI : pgI n σ) (kind : Int32) (secr : Int32) (keeper : Int32) : Met l yX3_bring (.code yX3_bring cX3_bring 5 (some .int) :: pgWd) ({ frames := 2, cells := 0, slots := 0, locals := 42 } : Room) (pgPc D (pgTys cD cC cI cZ cL) A (pgM D cI cZ A σ ρ th md) [.ref (md 0), .int kind, .int secr, .int keeper]) (va_Qi (fun (r : Int32) (_ : Unit) => (sp_bring σ kind secr keeper).1 = 0 → r = (sp_bring σ kind secr keeper).2.1) (fun _ t9 => pgM D cI cZ A ((sp_bring σ kind secr keeper).2.2) ρ (nI (sp_bring σ kind secr keeper).1) md t9.heap) A) 0 0 A := by
  refine pg_enter (own := RX3) (by decide) rfl (Nat.le_of_ble_eq_true rfl) (fun p e s m below meth cc9 B hr hnm => ?_)
  refine j_fact (fun H h => pgM.inA h) (fun hIn => ?_)
  refine j_iload_n B dX3_bring_0 1 rfl rfl ?_
  refine j_iconst B (v := 0) dX3_bring_1 (by decide) ?_
  refine j_iconst B (v := 2) dX3_bring_2 (by decide) ?_
  refine j_cSi B (S := Unit) 3 [.int kind, .int 0, .int 2] (WdC' := fun _ => pgM D cI cZ A σ ρ th md) (fun _ => pgM D cI cZ A σ ρ th md) (c_X3_isIn l D cD cC cI cZ cL A σ ρ th md kind 0 2) q_573 q_574 q_3 q_575 hdX3_isIn rfl ⟨Nat.le_of_ble_eq_true rfl, Nat.le_of_ble_eq_true rfl⟩ (Nat.le_of_ble_eq_true rfl) dX3_bring_3 rfl ⟨Nat.le_of_ble_eq_true rfl, Nat.le_of_ble_eq_true rfl⟩ (fun _ h => h) (fun _ _ _ _ h => h) (fun _ h => h) (fun _ _ _ _ h _ _ => h) (fun r1 _ hp2 => ?_)
  by_cases h3 : 0 ≤ kind ∧ kind ≤ 2
  · obtain rfl : r1 = 1 := by rw [hp2]; exact if_pos h3
    refine j_if_eq B 22 dX3_bring_6 (by decide) (fun h4 => (absurd h4 (by decide))) (fun h4 => ?_)
    refine j_iload_n B dX3_bring_9 2 rfl rfl ?_
    refine j_iconst B (v := 0) dX3_bring_10 (by decide) ?_
    refine j_iconst B (v := 3) dX3_bring_11 (by decide) ?_
    refine j_cSi B (S := Unit) 3 [.int secr, .int 0, .int 3] (WdC' := fun _ => pgM D cI cZ A σ ρ th md) (fun _ => pgM D cI cZ A σ ρ th md) (c_X3_isIn l D cD cC cI cZ cL A σ ρ th md secr 0 3) q_573 q_574 q_3 q_575 hdX3_isIn rfl ⟨Nat.le_of_ble_eq_true rfl, Nat.le_of_ble_eq_true rfl⟩ (Nat.le_of_ble_eq_true rfl) dX3_bring_12 rfl ⟨Nat.le_of_ble_eq_true rfl, Nat.le_of_ble_eq_true rfl⟩ (fun _ h => h) (fun _ _ _ _ h => h) (fun _ h => h) (fun _ _ _ _ h _ _ => h) (fun r5 _ hp6 => ?_)
    by_cases h7 : 0 ≤ secr ∧ secr ≤ 3
    · obtain rfl : r5 = 1 := by rw [hp6]; exact if_pos h7
      refine j_if_eq B 22 dX3_bring_15 (by decide) (fun h8 => (absurd h8 (by decide))) (fun h8 => ?_)
      refine j_iconst B (v := 1) dX3_bring_18 (by decide) ?_
      refine j_goto B 23 dX3_bring_19 (by decide) ?_
      refine j_istore B (L' := [(4, .int 1), (0, .ref (md 0)), (1, .int kind), (2, .int secr), (3, .int keeper)]) dX3_bring_23 (by decide) rfl ?_
      refine j_aload_n B dX3_bring_25 1 rfl rfl ?_
      refine j_iload_n B dX3_bring_26 4 rfl rfl ?_
      refine j_cSi B (S := Unit) 1 [.int keeper] (WdC' := fun _ => pgM D cI cZ A σ ρ th md) (fun _ => pgM D cI cZ A σ ρ th md) (c_X3_isKeeper l D cD cC cI cZ cL A σ ρ th md keeper) q_576 q_577 q_3 q_578 hdX3_isKeeper rfl ⟨Nat.le_of_ble_eq_true rfl, Nat.le_of_ble_eq_true rfl⟩ (Nat.le_of_ble_eq_true rfl) dX3_bring_27 rfl ⟨Nat.le_of_ble_eq_true rfl, Nat.le_of_ble_eq_true rfl⟩ (fun _ h => h) (fun _ _ _ _ h => h) (fun _ h => h) (fun _ _ _ _ h _ _ => h) (fun r9 _ hp10 => ?_)
      by_cases h11 : pgIsK keeper
      · obtain rfl : r9 = 1 := by rw [hp10]; exact if_pos h11
        refine j_if_ne B 37 dX3_bring_30 (by decide) (fun h12 => ?_) (fun h12 => (absurd h12 (by decide)))
        refine j_iload B dX3_bring_37 0 rfl ?_
        refine j_if_ne B 46 dX3_bring_39 (by decide) (fun h13 => ?_) (fun h13 => (absurd h13 (by decide)))
        refine j_aload_n B dX3_bring_46 1 rfl rfl ?_
        refine j_get B (v := .int (σ 13 0)) pgX3 rfl (fun H h => pgM.m h) 0 (by decide) q_505 rfl rfl dX3_bring_47 ?_
        refine j_bipush B (v := 60) dX3_bring_50 (by decide) ?_
        refine j_icmp_ne B 59 dX3_bring_52 (by decide) (fun h14 => ?_) (fun h14 => ?_)
        · refine j_iconst B (v := 0) dX3_bring_59 (by decide) ?_
          refine j_cVi B (S := Unit) 1 [.int 0] (WdC' := fun _ => pgM D cI cZ A σ ρ 0 md) (fun _ => pgM D cI cZ A σ ρ 0 md) (c_X3_can l D cD cC cI cZ cL A σ ρ th md 0) rfl (fun H h => pgM.m h) q_579 q_581 q_p6 q_3 q_582 hdX3_can rfl ⟨Nat.le_of_ble_eq_true rfl, Nat.le_of_ble_eq_true rfl⟩ (Nat.le_of_ble_eq_true rfl) dX3_bring_60 rfl ⟨Nat.le_of_ble_eq_true rfl, Nat.le_of_ble_eq_true rfl⟩ (fun _ h => h) (fun _ _ _ _ h => h) (fun _ h => h) (fun _ _ _ _ h _ _ => h) (fun r15 _ hp16 => ?_)
          obtain rfl : r15 = 1 := by rw [hp16]; rfl
          refine j_if_ne B 68 dX3_bring_63 (by decide) (fun h17 => ?_) (fun h17 => (absurd h17 (by decide)))
          have hn60 := (pgI_60 hI).2 (by assumption)
          have hb60 : vp_in (σ 13 0) 60 := by
            rw [hI.2.1]
            exact vp_in_nI hn60 (by omega)
          refine j_aload_n B dX3_bring_68 1 rfl rfl ?_
          refine j_get B (v := .ref (md 1)) pgX3 rfl (fun H h => pgM.m h) 1 (by decide) q_506 rfl rfl dX3_bring_69 ?_
          refine j_aload_n B dX3_bring_72 1 rfl rfl ?_
          refine j_get B (v := .int (σ 13 0)) pgX3 rfl (fun H h => pgM.m h) 0 (by decide) q_505 rfl rfl dX3_bring_73 ?_
          refine j_iload_n B dX3_bring_76 2 rfl rfl ?_
          refine j_iast B (Wd' := pgM D cI cZ A (pgU σ 0 (ix (σ 13 0)) kind) ρ 0 md) (fun H h => pgM.a1 h) 2 rfl hb60 dX3_bring_77 (hIn 1 (by omega)) (fun H H1 h hc hz ho => pgM.putA h (by decide) (pgMx rfl rfl (by decide)) hc ho) ?_
          refine j_aload_n B dX3_bring_78 1 rfl rfl ?_
          refine j_get B (v := .ref (md 2)) pgX3 rfl (fun H h => pgM.m h) 2 (by decide) q_507 rfl rfl dX3_bring_79 ?_
          refine j_aload_n B dX3_bring_82 1 rfl rfl ?_
          refine j_get B (v := .int (σ 13 0)) pgX3 rfl (fun H h => pgM.m h) 0 (by decide) q_505 rfl rfl dX3_bring_83 ?_
          refine j_iload_n B dX3_bring_86 3 rfl rfl ?_
          refine j_iast B (Wd' := pgM D cI cZ A (pgU (pgU σ 0 (ix (σ 13 0)) kind) 1 (ix (σ 13 0)) secr) ρ 0 md) (fun H h => pgM.a2 h) 2 rfl hb60 dX3_bring_87 (hIn 2 (by omega)) (fun H H1 h hc hz ho => pgM.putA h (by decide) (pgMx rfl rfl (by decide)) hc ho) ?_
          refine j_aload_n B dX3_bring_88 1 rfl rfl ?_
          refine j_get B (v := .ref (md 3)) pgX3 rfl (fun H h => pgM.m h) 3 (by decide) q_508 rfl rfl dX3_bring_89 ?_
          refine j_aload_n B dX3_bring_92 1 rfl rfl ?_
          refine j_get B (v := .int (σ 13 0)) pgX3 rfl (fun H h => pgM.m h) 0 (by decide) q_505 rfl rfl dX3_bring_93 ?_
          refine j_iload_n B dX3_bring_96 4 rfl rfl ?_
          refine j_iast B (Wd' := pgM D cI cZ A (pgU (pgU (pgU σ 0 (ix (σ 13 0)) kind) 1 (ix (σ 13 0)) secr) 2 (ix (σ 13 0)) keeper) ρ 0 md) (fun H h => pgM.a3 h) 2 rfl hb60 dX3_bring_97 (hIn 3 (by omega)) (fun H H1 h hc hz ho => pgM.putA h (by decide) (pgMx rfl rfl (by decide)) hc ho) ?_
          refine j_aload_n B dX3_bring_98 1 rfl rfl ?_
          refine j_get B (v := .ref (md 4)) pgX3 rfl (fun H h => pgM.m h) 4 (by decide) q_509 rfl rfl dX3_bring_99 ?_
          refine j_aload_n B dX3_bring_102 1 rfl rfl ?_
          refine j_get B (v := .int (σ 13 0)) pgX3 rfl (fun H h => pgM.m h) 0 (by decide) q_505 rfl rfl dX3_bring_103 ?_
          refine j_iconst B (v := (-1)) dX3_bring_106 (by decide) ?_
          refine j_iast B (Wd' := pgM D cI cZ A (pgU (pgU (pgU (pgU σ 0 (ix (σ 13 0)) kind) 1 (ix (σ 13 0)) secr) 2 (ix (σ 13 0)) keeper) 3 (ix (σ 13 0)) (-1)) ρ 0 md) (fun H h => pgM.a4 h) 2 rfl hb60 dX3_bring_107 (hIn 4 (by omega)) (fun H H1 h hc hz ho => pgM.putA h (by decide) (pgMx rfl rfl (by decide)) hc ho) ?_
          refine j_aload_n B dX3_bring_108 1 rfl rfl ?_
          refine j_get B (v := .ref (md 7)) pgX3 rfl (fun H h => pgM.m h) 7 (by decide) q_512 rfl rfl dX3_bring_109 ?_
          refine j_aload_n B dX3_bring_112 1 rfl rfl ?_
          refine j_get B (v := .int (σ 13 0)) pgX3 rfl (fun H h => pgM.m h) 0 (by decide) q_505 rfl rfl dX3_bring_113 ?_
          refine j_iconst B (v := (-1)) dX3_bring_116 (by decide) ?_
          refine j_iast B (Wd' := pgM D cI cZ A (pgU (pgU (pgU (pgU (pgU σ 0 (ix (σ 13 0)) kind) 1 (ix (σ 13 0)) secr) 2 (ix (σ 13 0)) keeper) 3 (ix (σ 13 0)) (-1)) 6 (ix (σ 13 0)) (-1)) ρ 0 md) (fun H h => pgM.a7 h) 2 rfl hb60 dX3_bring_117 (hIn 7 (by omega)) (fun H H1 h hc hz ho => pgM.putA h (by decide) (pgMx rfl rfl (by decide)) hc ho) ?_
          refine j_aload_n B dX3_bring_118 1 rfl rfl ?_
          refine j_get B (v := .ref (md 8)) pgX3 rfl (fun H h => pgM.m h) 8 (by decide) q_513 rfl rfl dX3_bring_119 ?_
          refine j_aload_n B dX3_bring_122 1 rfl rfl ?_
          refine j_get B (v := .int (σ 13 0)) pgX3 rfl (fun H h => pgM.m h) 0 (by decide) q_505 rfl rfl dX3_bring_123 ?_
          refine j_iconst B (v := (-1)) dX3_bring_126 (by decide) ?_
          refine j_iast B (Wd' := pgM D cI cZ A (pgU (pgU (pgU (pgU (pgU (pgU σ 0 (ix (σ 13 0)) kind) 1 (ix (σ 13 0)) secr) 2 (ix (σ 13 0)) keeper) 3 (ix (σ 13 0)) (-1)) 6 (ix (σ 13 0)) (-1)) 7 (ix (σ 13 0)) (-1)) ρ 0 md) (fun H h => pgM.a8 h) 2 rfl hb60 dX3_bring_127 (hIn 8 (by omega)) (fun H H1 h hc hz ho => pgM.putA h (by decide) (pgMx rfl rfl (by decide)) hc ho) ?_
          refine j_aload_n B dX3_bring_128 1 rfl rfl ?_
          refine j_get B (v := .ref (md 10)) pgX3 rfl (fun H h => pgM.m h) 10 (by decide) q_515 rfl rfl dX3_bring_129 ?_
          refine j_aload_n B dX3_bring_132 1 rfl rfl ?_
          refine j_get B (v := .int (σ 13 0)) pgX3 rfl (fun H h => pgM.m h) 0 (by decide) q_505 rfl rfl dX3_bring_133 ?_
          refine j_iconst B (v := (-1)) dX3_bring_136 (by decide) ?_
          refine j_iast B (Wd' := pgM D cI cZ A (pgU (pgU (pgU (pgU (pgU (pgU (pgU σ 0 (ix (σ 13 0)) kind) 1 (ix (σ 13 0)) secr) 2 (ix (σ 13 0)) keeper) 3 (ix (σ 13 0)) (-1)) 6 (ix (σ 13 0)) (-1)) 7 (ix (σ 13 0)) (-1)) 9 (ix (σ 13 0)) (-1)) ρ 0 md) (fun H h => pgM.a10 h) 2 rfl hb60 dX3_bring_137 (hIn 10 (by omega)) (fun H H1 h hc hz ho => pgM.putA h (by decide) (pgMx rfl rfl (by decide)) hc ho) ?_
          refine j_aload_n B dX3_bring_138 1 rfl rfl ?_
          refine j_dup B dX3_bring_139 rfl ?_
          refine j_get B (v := .int (σ 13 0)) pgX3 rfl (fun H h => pgM.m h) 0 (by decide) q_505 rfl rfl dX3_bring_140 ?_
          refine j_iconst B (v := 1) dX3_bring_143 (by decide) ?_
          refine j_iadd B dX3_bring_144 ?_
          refine j_put B (Wd' := pgM D cI cZ A (pgU (pgU (pgU (pgU (pgU (pgU (pgU (pgU σ 0 (ix (σ 13 0)) kind) 1 (ix (σ 13 0)) secr) 2 (ix (σ 13 0)) keeper) 3 (ix (σ 13 0)) (-1)) 6 (ix (σ 13 0)) (-1)) 7 (ix (σ 13 0)) (-1)) 9 (ix (σ 13 0)) (-1)) 13 0 ((σ 13 0) + 1)) ρ 0 md) pgX3 tyX3 tyX3_ok nmX3 rfl (fun H h => pgM.m h) 0 (by decide) q_505 rfl rfl rfl rfl rfl (Nat.le_of_ble_eq_true rfl) dX3_bring_145 (hIn 0 (by omega)) (fun H H1 h hc hz ho => pgM.putN h pgMs0 hc ho) ?_
          refine j_aload_n B dX3_bring_148 1 rfl rfl ?_
          refine j_dup B dX3_bring_149 rfl ?_
          refine j_get B (v := .int ((pgU (pgU (pgU (pgU (pgU (pgU (pgU (pgU σ 0 (ix (σ 13 0)) kind) 1 (ix (σ 13 0)) secr) 2 (ix (σ 13 0)) keeper) 3 (ix (σ 13 0)) (-1)) 6 (ix (σ 13 0)) (-1)) 7 (ix (σ 13 0)) (-1)) 9 (ix (σ 13 0)) (-1)) 13 0 ((σ 13 0) + 1)) 13 3)) pgX3 rfl (fun H h => pgM.m h) 16 (by decide) q_521 rfl rfl dX3_bring_150 ?_
          refine j_iconst B (v := 1) dX3_bring_153 (by decide) ?_
          refine j_iadd B dX3_bring_154 ?_
          refine j_put B (Wd' := pgM D cI cZ A (pgU (pgU (pgU (pgU (pgU (pgU (pgU (pgU (pgU σ 0 (ix (σ 13 0)) kind) 1 (ix (σ 13 0)) secr) 2 (ix (σ 13 0)) keeper) 3 (ix (σ 13 0)) (-1)) 6 (ix (σ 13 0)) (-1)) 7 (ix (σ 13 0)) (-1)) 9 (ix (σ 13 0)) (-1)) 13 0 ((σ 13 0) + 1)) 13 3 (((pgU (pgU (pgU (pgU (pgU (pgU (pgU (pgU σ 0 (ix (σ 13 0)) kind) 1 (ix (σ 13 0)) secr) 2 (ix (σ 13 0)) keeper) 3 (ix (σ 13 0)) (-1)) 6 (ix (σ 13 0)) (-1)) 7 (ix (σ 13 0)) (-1)) 9 (ix (σ 13 0)) (-1)) 13 0 ((σ 13 0) + 1)) 13 3) + 1)) ρ 0 md) pgX3 tyX3 tyX3_ok nmX3 rfl (fun H h => pgM.m h) 16 (by decide) q_521 rfl rfl rfl rfl rfl (Nat.le_of_ble_eq_true rfl) dX3_bring_155 (hIn 0 (by omega)) (fun H H1 h hc hz ho => pgM.putN h pgMs16 hc ho) ?_
          refine j_aload_n B dX3_bring_158 1 rfl rfl ?_
          refine j_get B (v := .int ((pgU (pgU (pgU (pgU (pgU (pgU (pgU (pgU (pgU σ 0 (ix (σ 13 0)) kind) 1 (ix (σ 13 0)) secr) 2 (ix (σ 13 0)) keeper) 3 (ix (σ 13 0)) (-1)) 6 (ix (σ 13 0)) (-1)) 7 (ix (σ 13 0)) (-1)) 9 (ix (σ 13 0)) (-1)) 13 0 ((σ 13 0) + 1)) 13 3 (((pgU (pgU (pgU (pgU (pgU (pgU (pgU (pgU σ 0 (ix (σ 13 0)) kind) 1 (ix (σ 13 0)) secr) 2 (ix (σ 13 0)) keeper) 3 (ix (σ 13 0)) (-1)) 6 (ix (σ 13 0)) (-1)) 7 (ix (σ 13 0)) (-1)) 9 (ix (σ 13 0)) (-1)) 13 0 ((σ 13 0) + 1)) 13 3) + 1)) 13 0)) pgX3 rfl (fun H h => pgM.m h) 0 (by decide) q_505 rfl rfl dX3_bring_159 ?_
          refine j_iconst B (v := 1) dX3_bring_162 (by decide) ?_
          refine j_isub B dX3_bring_163 ?_
          have e9 : sp_bring σ kind secr keeper = (0, σ 13 0, fun t j => if t = 13 then (if j = 0 then σ 13 0 + 1 else if j = 3 then σ 13 3 + 1 else σ t j) else if j = ix (σ 13 0) then (if t = 0 then kind else if t = 1 then secr else if t = 2 then keeper else if t = 14 then keeper else if t = 3 then -1 else if t = 6 then -1 else if t = 7 then -1 else if t = 9 then -1 else σ t j) else σ t j) := by
            have q9 := (pgI_60 hI).1
            simp only [sp_bring]; grind
          exact j_iret B hr rfl dX3_bring_164 (Nat.le_of_ble_eq_true rfl) (Nat.le_of_ble_eq_true rfl) () (by rw [e9]; exact fun _ => (Int32.add_sub_cancel _ _)) (fun H h => by rw [e9]; exact pgM.sim h (pgSim.of fun t9 j9 h9 => by simp only [pgU] <;> grind (splits := 40)))
        · refine j_iconst B (v := 3) dX3_bring_55 (by decide) ?_
          refine j_goto B 60 dX3_bring_56 (by decide) ?_
          refine j_cVi B (S := Unit) 1 [.int 3] (WdC' := fun _ => pgM D cI cZ A σ ρ 3 md) (fun _ => pgM D cI cZ A σ ρ 3 md) (c_X3_can l D cD cC cI cZ cL A σ ρ th md 3) rfl (fun H h => pgM.m h) q_579 q_581 q_p6 q_3 q_582 hdX3_can rfl ⟨Nat.le_of_ble_eq_true rfl, Nat.le_of_ble_eq_true rfl⟩ (Nat.le_of_ble_eq_true rfl) dX3_bring_60 rfl ⟨Nat.le_of_ble_eq_true rfl, Nat.le_of_ble_eq_true rfl⟩ (fun _ h => h) (fun _ _ _ _ h => h) (fun _ h => h) (fun _ _ _ _ h _ _ => h) (fun r18 _ hp19 => ?_)
          obtain rfl : r18 = 0 := by rw [hp19]; rfl
          refine j_if_ne B 68 dX3_bring_63 (by decide) (fun h20 => (absurd (by decide) h20)) (fun h20 => ?_)
          refine j_iconst B (v := 0) dX3_bring_66 (by decide) ?_
          have e1 : (sp_bring σ kind secr keeper).1 = 3 := by
            have q9 := (pgI_60 hI).1
            simp only [sp_bring]; grind
          have e2 : (sp_bring σ kind secr keeper).2.2 = σ := by
            have q9 := (pgI_60 hI).1
            simp only [sp_bring]; grind
          exact j_iret B hr rfl dX3_bring_67 (Nat.le_of_ble_eq_true rfl) (Nat.le_of_ble_eq_true rfl) () (by rw [e1]; exact fun h => absurd h (by decide)) (fun H h => by rw [e1, e2]; exact h)
      · obtain rfl : r9 = 0 := by rw [hp10]; exact if_neg h11
        refine j_if_ne B 37 dX3_bring_30 (by decide) (fun h21 => (absurd (by decide) h21)) (fun h21 => ?_)
        refine j_iconst B (v := 1) dX3_bring_33 (by decide) ?_
        refine j_goto B 60 dX3_bring_34 (by decide) ?_
        refine j_cVi B (S := Unit) 1 [.int 1] (WdC' := fun _ => pgM D cI cZ A σ ρ 1 md) (fun _ => pgM D cI cZ A σ ρ 1 md) (c_X3_can l D cD cC cI cZ cL A σ ρ th md 1) rfl (fun H h => pgM.m h) q_579 q_581 q_p6 q_3 q_582 hdX3_can rfl ⟨Nat.le_of_ble_eq_true rfl, Nat.le_of_ble_eq_true rfl⟩ (Nat.le_of_ble_eq_true rfl) dX3_bring_60 rfl ⟨Nat.le_of_ble_eq_true rfl, Nat.le_of_ble_eq_true rfl⟩ (fun _ h => h) (fun _ _ _ _ h => h) (fun _ h => h) (fun _ _ _ _ h _ _ => h) (fun r22 _ hp23 => ?_)
        obtain rfl : r22 = 0 := by rw [hp23]; rfl
        refine j_if_ne B 68 dX3_bring_63 (by decide) (fun h24 => (absurd (by decide) h24)) (fun h24 => ?_)
        refine j_iconst B (v := 0) dX3_bring_66 (by decide) ?_
        have e1 : (sp_bring σ kind secr keeper).1 = 1 := by
          have q9 := (pgI_60 hI).1
          simp only [sp_bring]; grind
        have e2 : (sp_bring σ kind secr keeper).2.2 = σ := by
          have q9 := (pgI_60 hI).1
          simp only [sp_bring]; grind
        exact j_iret B hr rfl dX3_bring_67 (Nat.le_of_ble_eq_true rfl) (Nat.le_of_ble_eq_true rfl) () (by rw [e1]; exact fun h => absurd h (by decide)) (fun H h => by rw [e1, e2]; exact h)
    · obtain rfl : r5 = 0 := by rw [hp6]; exact if_neg h7
      refine j_if_eq B 22 dX3_bring_15 (by decide) (fun h25 => ?_) (fun h25 => (absurd (by decide) h25))
      refine j_iconst B (v := 0) dX3_bring_22 (by decide) ?_
      refine j_istore B (L' := [(4, .int 0), (0, .ref (md 0)), (1, .int kind), (2, .int secr), (3, .int keeper)]) dX3_bring_23 (by decide) rfl ?_
      refine j_aload_n B dX3_bring_25 1 rfl rfl ?_
      refine j_iload_n B dX3_bring_26 4 rfl rfl ?_
      refine j_cSi B (S := Unit) 1 [.int keeper] (WdC' := fun _ => pgM D cI cZ A σ ρ th md) (fun _ => pgM D cI cZ A σ ρ th md) (c_X3_isKeeper l D cD cC cI cZ cL A σ ρ th md keeper) q_576 q_577 q_3 q_578 hdX3_isKeeper rfl ⟨Nat.le_of_ble_eq_true rfl, Nat.le_of_ble_eq_true rfl⟩ (Nat.le_of_ble_eq_true rfl) dX3_bring_27 rfl ⟨Nat.le_of_ble_eq_true rfl, Nat.le_of_ble_eq_true rfl⟩ (fun _ h => h) (fun _ _ _ _ h => h) (fun _ h => h) (fun _ _ _ _ h _ _ => h) (fun r26 _ hp27 => ?_)
      by_cases h28 : pgIsK keeper
      · obtain rfl : r26 = 1 := by rw [hp27]; exact if_pos h28
        refine j_if_ne B 37 dX3_bring_30 (by decide) (fun h29 => ?_) (fun h29 => (absurd h29 (by decide)))
        refine j_iload B dX3_bring_37 0 rfl ?_
        refine j_if_ne B 46 dX3_bring_39 (by decide) (fun h30 => (absurd (by decide) h30)) (fun h30 => ?_)
        refine j_iconst B (v := 2) dX3_bring_42 (by decide) ?_
        refine j_goto B 60 dX3_bring_43 (by decide) ?_
        refine j_cVi B (S := Unit) 1 [.int 2] (WdC' := fun _ => pgM D cI cZ A σ ρ 2 md) (fun _ => pgM D cI cZ A σ ρ 2 md) (c_X3_can l D cD cC cI cZ cL A σ ρ th md 2) rfl (fun H h => pgM.m h) q_579 q_581 q_p6 q_3 q_582 hdX3_can rfl ⟨Nat.le_of_ble_eq_true rfl, Nat.le_of_ble_eq_true rfl⟩ (Nat.le_of_ble_eq_true rfl) dX3_bring_60 rfl ⟨Nat.le_of_ble_eq_true rfl, Nat.le_of_ble_eq_true rfl⟩ (fun _ h => h) (fun _ _ _ _ h => h) (fun _ h => h) (fun _ _ _ _ h _ _ => h) (fun r31 _ hp32 => ?_)
        obtain rfl : r31 = 0 := by rw [hp32]; rfl
        refine j_if_ne B 68 dX3_bring_63 (by decide) (fun h33 => (absurd (by decide) h33)) (fun h33 => ?_)
        refine j_iconst B (v := 0) dX3_bring_66 (by decide) ?_
        have e1 : (sp_bring σ kind secr keeper).1 = 2 := by
          have q9 := (pgI_60 hI).1
          simp only [sp_bring]; grind
        have e2 : (sp_bring σ kind secr keeper).2.2 = σ := by
          have q9 := (pgI_60 hI).1
          simp only [sp_bring]; grind
        exact j_iret B hr rfl dX3_bring_67 (Nat.le_of_ble_eq_true rfl) (Nat.le_of_ble_eq_true rfl) () (by rw [e1]; exact fun h => absurd h (by decide)) (fun H h => by rw [e1, e2]; exact h)
      · obtain rfl : r26 = 0 := by rw [hp27]; exact if_neg h28
        refine j_if_ne B 37 dX3_bring_30 (by decide) (fun h34 => (absurd (by decide) h34)) (fun h34 => ?_)
        refine j_iconst B (v := 1) dX3_bring_33 (by decide) ?_
        refine j_goto B 60 dX3_bring_34 (by decide) ?_
        refine j_cVi B (S := Unit) 1 [.int 1] (WdC' := fun _ => pgM D cI cZ A σ ρ 1 md) (fun _ => pgM D cI cZ A σ ρ 1 md) (c_X3_can l D cD cC cI cZ cL A σ ρ th md 1) rfl (fun H h => pgM.m h) q_579 q_581 q_p6 q_3 q_582 hdX3_can rfl ⟨Nat.le_of_ble_eq_true rfl, Nat.le_of_ble_eq_true rfl⟩ (Nat.le_of_ble_eq_true rfl) dX3_bring_60 rfl ⟨Nat.le_of_ble_eq_true rfl, Nat.le_of_ble_eq_true rfl⟩ (fun _ h => h) (fun _ _ _ _ h => h) (fun _ h => h) (fun _ _ _ _ h _ _ => h) (fun r35 _ hp36 => ?_)
        obtain rfl : r35 = 0 := by rw [hp36]; rfl
        refine j_if_ne B 68 dX3_bring_63 (by decide) (fun h37 => (absurd (by decide) h37)) (fun h37 => ?_)
        refine j_iconst B (v := 0) dX3_bring_66 (by decide) ?_
        have e1 : (sp_bring σ kind secr keeper).1 = 1 := by
          have q9 := (pgI_60 hI).1
          simp only [sp_bring]; grind
        have e2 : (sp_bring σ kind secr keeper).2.2 = σ := by
          have q9 := (pgI_60 hI).1
          simp only [sp_bring]; grind
        exact j_iret B hr rfl dX3_bring_67 (Nat.le_of_ble_eq_true rfl) (Nat.le_of_ble_eq_true rfl) () (by rw [e1]; exact fun h => absurd h (by decide)) (fun H h => by rw [e1, e2]; exact h)
  · obtain rfl : r1 = 0 := by rw [hp2]; exact if_neg h3
    refine j_if_eq B 22 dX3_bring_6 (by decide) (fun h38 => ?_) (fun h38 => (absurd (by decide) h38))
    refine j_iconst B (v := 0) dX3_bring_22 (by decide) ?_
    refine j_istore B (L' := [(4, .int 0), (0, .ref (md 0)), (1, .int kind), (2, .int secr), (3, .int keeper)]) dX3_bring_23 (by decide) rfl ?_
    refine j_aload_n B dX3_bring_25 1 rfl rfl ?_
    refine j_iload_n B dX3_bring_26 4 rfl rfl ?_
    refine j_cSi B (S := Unit) 1 [.int keeper] (WdC' := fun _ => pgM D cI cZ A σ ρ th md) (fun _ => pgM D cI cZ A σ ρ th md) (c_X3_isKeeper l D cD cC cI cZ cL A σ ρ th md keeper) q_576 q_577 q_3 q_578 hdX3_isKeeper rfl ⟨Nat.le_of_ble_eq_true rfl, Nat.le_of_ble_eq_true rfl⟩ (Nat.le_of_ble_eq_true rfl) dX3_bring_27 rfl ⟨Nat.le_of_ble_eq_true rfl, Nat.le_of_ble_eq_true rfl⟩ (fun _ h => h) (fun _ _ _ _ h => h) (fun _ h => h) (fun _ _ _ _ h _ _ => h) (fun r39 _ hp40 => ?_)
    by_cases h41 : pgIsK keeper
    · obtain rfl : r39 = 1 := by rw [hp40]; exact if_pos h41
      refine j_if_ne B 37 dX3_bring_30 (by decide) (fun h42 => ?_) (fun h42 => (absurd h42 (by decide)))
      refine j_iload B dX3_bring_37 0 rfl ?_
      refine j_if_ne B 46 dX3_bring_39 (by decide) (fun h43 => (absurd (by decide) h43)) (fun h43 => ?_)
      refine j_iconst B (v := 2) dX3_bring_42 (by decide) ?_
      refine j_goto B 60 dX3_bring_43 (by decide) ?_
      refine j_cVi B (S := Unit) 1 [.int 2] (WdC' := fun _ => pgM D cI cZ A σ ρ 2 md) (fun _ => pgM D cI cZ A σ ρ 2 md) (c_X3_can l D cD cC cI cZ cL A σ ρ th md 2) rfl (fun H h => pgM.m h) q_579 q_581 q_p6 q_3 q_582 hdX3_can rfl ⟨Nat.le_of_ble_eq_true rfl, Nat.le_of_ble_eq_true rfl⟩ (Nat.le_of_ble_eq_true rfl) dX3_bring_60 rfl ⟨Nat.le_of_ble_eq_true rfl, Nat.le_of_ble_eq_true rfl⟩ (fun _ h => h) (fun _ _ _ _ h => h) (fun _ h => h) (fun _ _ _ _ h _ _ => h) (fun r44 _ hp45 => ?_)
      obtain rfl : r44 = 0 := by rw [hp45]; rfl
      refine j_if_ne B 68 dX3_bring_63 (by decide) (fun h46 => (absurd (by decide) h46)) (fun h46 => ?_)
      refine j_iconst B (v := 0) dX3_bring_66 (by decide) ?_
      have e1 : (sp_bring σ kind secr keeper).1 = 2 := by
        have q9 := (pgI_60 hI).1
        simp only [sp_bring]; grind
      have e2 : (sp_bring σ kind secr keeper).2.2 = σ := by
        have q9 := (pgI_60 hI).1
        simp only [sp_bring]; grind
      exact j_iret B hr rfl dX3_bring_67 (Nat.le_of_ble_eq_true rfl) (Nat.le_of_ble_eq_true rfl) () (by rw [e1]; exact fun h => absurd h (by decide)) (fun H h => by rw [e1, e2]; exact h)
    · obtain rfl : r39 = 0 := by rw [hp40]; exact if_neg h41
      refine j_if_ne B 37 dX3_bring_30 (by decide) (fun h47 => (absurd (by decide) h47)) (fun h47 => ?_)
      refine j_iconst B (v := 1) dX3_bring_33 (by decide) ?_
      refine j_goto B 60 dX3_bring_34 (by decide) ?_
      refine j_cVi B (S := Unit) 1 [.int 1] (WdC' := fun _ => pgM D cI cZ A σ ρ 1 md) (fun _ => pgM D cI cZ A σ ρ 1 md) (c_X3_can l D cD cC cI cZ cL A σ ρ th md 1) rfl (fun H h => pgM.m h) q_579 q_581 q_p6 q_3 q_582 hdX3_can rfl ⟨Nat.le_of_ble_eq_true rfl, Nat.le_of_ble_eq_true rfl⟩ (Nat.le_of_ble_eq_true rfl) dX3_bring_60 rfl ⟨Nat.le_of_ble_eq_true rfl, Nat.le_of_ble_eq_true rfl⟩ (fun _ h => h) (fun _ _ _ _ h => h) (fun _ h => h) (fun _ _ _ _ h _ _ => h) (fun r48 _ hp49 => ?_)
      obtain rfl : r48 = 0 := by rw [hp49]; rfl
      refine j_if_ne B 68 dX3_bring_63 (by decide) (fun h50 => (absurd (by decide) h50)) (fun h50 => ?_)
      refine j_iconst B (v := 0) dX3_bring_66 (by decide) ?_
      have e1 : (sp_bring σ kind secr keeper).1 = 1 := by
        have q9 := (pgI_60 hI).1
        simp only [sp_bring]; grind
      have e2 : (sp_bring σ kind secr keeper).2.2 = σ := by
        have q9 := (pgI_60 hI).1
        simp only [sp_bring]; grind
      exact j_iret B hr rfl dX3_bring_67 (Nat.le_of_ble_eq_true rfl) (Nat.le_of_ble_eq_true rfl) () (by rw [e1]; exact fun h => absurd h (by decide)) (fun H h => by rw [e1, e2]; exact h)
set_option maxHeartbeats 4000000 in
set_option maxRecDepth 100000 in
/-- carry -/
theorem c_X3_carry (l : Launch) (D : va_G) (cD cC cI cZ cL : ClassId) (A : Nat → Prop) (σ : pgSt) (ρ : Nat → Int32) (th : Int32) (md : Nat → Nat) (n : Nat) (hI : pgI n σ) (c to : Int32) : Met l yX3_carry (.code yX3_carry cX3_carry 6 (some .int) :: pgWd) ({ frames := 2, cells := 0, slots := 0, locals := 42 } : Room) (pgPc D (pgTys cD cC cI cZ cL) A (pgM D cI cZ A σ ρ th md) [.ref (md 0), .int c, .int to]) (va_Qi (fun (r : Int32) (_ : Unit) => (sp_carry σ c to).1 = 0 → r = (sp_carry σ c to).2.1) (fun _ t9 => pgM D cI cZ A ((sp_carry σ c to).2.2) ρ (nI (sp_carry σ c to).1) md t9.heap) A) 0 0 A := by
  refine pg_enter (own := RX3) (by decide) rfl (Nat.le_of_ble_eq_true rfl) (fun p e s m below meth cc9 B hr hnm => ?_)
  refine j_fact (fun H h => pgM.inA h) (fun hIn => ?_)
  refine j_iload_n B dX3_carry_0 1 rfl rfl ?_
  refine j_cSi B (S := Unit) 1 [.int c] (WdC' := fun _ => pgM D cI cZ A σ ρ th md) (fun _ => pgM D cI cZ A σ ρ th md) (c_X3_isCrate l D cD cC cI cZ cL A σ ρ th md c) q_607 q_608 q_3 q_609 hdX3_isCrate rfl ⟨Nat.le_of_ble_eq_true rfl, Nat.le_of_ble_eq_true rfl⟩ (Nat.le_of_ble_eq_true rfl) dX3_carry_1 rfl ⟨Nat.le_of_ble_eq_true rfl, Nat.le_of_ble_eq_true rfl⟩ (fun _ h => h) (fun _ _ _ _ h => h) (fun _ h => h) (fun _ _ _ _ h _ _ => h) (fun r1 _ hp2 => ?_)
  by_cases h3 : pgIsC c
  · obtain rfl : r1 = 1 := by rw [hp2]; exact if_pos h3
    refine j_if_eq B 18 dX3_carry_4 (by decide) (fun h4 => (absurd h4 (by decide))) (fun h4 => ?_)
    refine j_iload_n B dX3_carry_7 2 rfl rfl ?_
    refine j_cSi B (S := Unit) 1 [.int to] (WdC' := fun _ => pgM D cI cZ A σ ρ th md) (fun _ => pgM D cI cZ A σ ρ th md) (c_X3_isKeeper l D cD cC cI cZ cL A σ ρ th md to) q_576 q_577 q_3 q_578 hdX3_isKeeper rfl ⟨Nat.le_of_ble_eq_true rfl, Nat.le_of_ble_eq_true rfl⟩ (Nat.le_of_ble_eq_true rfl) dX3_carry_8 rfl ⟨Nat.le_of_ble_eq_true rfl, Nat.le_of_ble_eq_true rfl⟩ (fun _ h => h) (fun _ _ _ _ h => h) (fun _ h => h) (fun _ _ _ _ h _ _ => h) (fun r5 _ hp6 => ?_)
    by_cases h7 : pgIsK to
    · obtain rfl : r5 = 1 := by rw [hp6]; exact if_pos h7
      refine j_if_eq B 18 dX3_carry_11 (by decide) (fun h8 => (absurd h8 (by decide))) (fun h8 => ?_)
      refine j_iconst B (v := 1) dX3_carry_14 (by decide) ?_
      refine j_goto B 19 dX3_carry_15 (by decide) ?_
      refine j_istore_n B (L' := [(3, .int 1), (0, .ref (md 0)), (1, .int c), (2, .int to)]) dX3_carry_19 rfl (by decide) rfl ?_
      refine j_aload_n B dX3_carry_20 1 rfl rfl ?_
      refine j_iload_n B dX3_carry_21 0 rfl rfl ?_
      refine j_if_ne B 29 dX3_carry_22 (by decide) (fun h9 => ?_) (fun h9 => (absurd h9 (by decide)))
      refine j_aload_n B dX3_carry_29 1 rfl rfl ?_
      refine j_get B (v := .ref (md 11)) pgX3 rfl (fun H h => pgM.m h) 11 (by decide) q_516 rfl rfl dX3_carry_30 ?_
      refine j_iload_n B dX3_carry_33 2 rfl rfl ?_
      refine j_ialdv B (fun H h => pgM.a11 h) 2 rfl (pg_inC h3) (v := σ 10 (ix c)) rfl dX3_carry_34 ?_
      refine j_iload_n B dX3_carry_35 3 rfl rfl ?_
      refine j_icmp_ne B 43 dX3_carry_36 (by decide) (fun h10 => ?_) (fun h10 => ?_)
      · refine j_aload_n B dX3_carry_43 1 rfl rfl ?_
        refine j_get B (v := .ref (md 12)) pgX3 rfl (fun H h => pgM.m h) 12 (by decide) q_517 rfl rfl dX3_carry_44 ?_
        refine j_iload_n B dX3_carry_47 2 rfl rfl ?_
        refine j_ialdv B (fun H h => pgM.a12 h) 2 rfl (pg_inC h3) (v := σ 11 (ix c)) rfl dX3_carry_48 ?_
        refine j_iconst B (v := (-1)) dX3_carry_49 (by decide) ?_
        refine j_icmp_ne B 65 dX3_carry_50 (by decide) (fun h11 => ?_) (fun h11 => ?_)
        · refine j_iconst B (v := 0) dX3_carry_65 (by decide) ?_
          refine j_cVi B (S := Unit) 1 [.int 0] (WdC' := fun _ => pgM D cI cZ A σ ρ 0 md) (fun _ => pgM D cI cZ A σ ρ 0 md) (c_X3_can l D cD cC cI cZ cL A σ ρ th md 0) rfl (fun H h => pgM.m h) q_579 q_581 q_p6 q_3 q_582 hdX3_can rfl ⟨Nat.le_of_ble_eq_true rfl, Nat.le_of_ble_eq_true rfl⟩ (Nat.le_of_ble_eq_true rfl) dX3_carry_66 rfl ⟨Nat.le_of_ble_eq_true rfl, Nat.le_of_ble_eq_true rfl⟩ (fun _ h => h) (fun _ _ _ _ h => h) (fun _ h => h) (fun _ _ _ _ h _ _ => h) (fun r12 _ hp13 => ?_)
          obtain rfl : r12 = 1 := by rw [hp13]; rfl
          refine j_if_ne B 74 dX3_carry_69 (by decide) (fun h14 => ?_) (fun h14 => (absurd h14 (by decide)))
          refine j_aload_n B dX3_carry_74 1 rfl rfl ?_
          refine j_get B (v := .ref (md 11)) pgX3 rfl (fun H h => pgM.m h) 11 (by decide) q_516 rfl rfl dX3_carry_75 ?_
          refine j_iload_n B dX3_carry_78 2 rfl rfl ?_
          refine j_ialdv B (fun H h => pgM.a11 h) 2 rfl (pg_inC h3) (v := σ 10 (ix c)) rfl dX3_carry_79 ?_
          refine j_istore B (L' := [(4, .int (σ 10 (ix c))), (3, .int 1), (0, .ref (md 0)), (1, .int c), (2, .int to)]) dX3_carry_80 (by decide) rfl ?_
          refine j_aload_n B dX3_carry_82 2 rfl rfl ?_
          refine j_get B (v := .ref (md 11)) pgX3 rfl (fun H h => pgM.m h) 11 (by decide) q_516 rfl rfl dX3_carry_83 ?_
          refine j_iload_n B dX3_carry_86 3 rfl rfl ?_
          refine j_iload_n B dX3_carry_87 4 rfl rfl ?_
          refine j_iast B (Wd' := pgM D cI cZ A (pgU σ 10 (ix c) to) ρ 0 md) (fun H h => pgM.a11 h) 2 rfl (pg_inC h3) dX3_carry_88 (hIn 11 (by omega)) (fun H H1 h hc hz ho => pgM.putA h (by decide) (pgMx rfl rfl (by decide)) hc ho) ?_
          refine j_iconst B (v := 0) dX3_carry_89 (by decide) ?_
          refine j_istore B (L' := [(5, .int 0), (4, .int (σ 10 (ix c))), (3, .int 1), (0, .ref (md 0)), (1, .int c), (2, .int to)]) dX3_carry_90 (by decide) rfl ?_
          refine j_locals [0, 1, 5, 4, 3] rfl ?_
          refine j_world (Wd' := pgM D cI cZ A (pgHoN (pgU σ 10 (ix c) to) c to 0) ρ 0 md) (fun H h => pgM.eq h pgHoN_0) ?_
          refine j_loop (N := n) (X := Unit) (fun i x => True) (fun i x => pgM D cI cZ A (pgHoN (pgU σ 10 (ix c) to) c to i) ρ 0 md) (fun i x => [(5, .int (nI i)), (4, .int (σ 10 (ix c))), (2, .int to), (1, .int c), (0, .ref (md 0))]) (fun i x hi hv ih => ?_) 0 () (by omega) trivial
          refine j_iload B dX3_carry_92 0 rfl ?_
          refine j_aload_n B dX3_carry_94 4 rfl rfl ?_
          refine j_get B (v := .int (σ 13 0)) pgX3 rfl (fun H h => pgM.m h) 0 (by decide) q_505 rfl rfl dX3_carry_95 ?_
          refine j_icmp_ge B 136 dX3_carry_98 (by decide) (fun h15 => ?_) (fun h15 => ?_)
          · rw [hI.2.1] at h15
            obtain rfl := pg_eqN hi (by have := hI.1; omega) h15
            refine j_iload B dX3_carry_136 1 rfl ?_
            have hn7 := pgI_n hI
            have e9 : sp_carry σ c to = (0, σ 10 (ix c), pgHoN (pgU σ 10 (ix c) to) c to n) := by
              simp only [sp_carry, hn7]; grind
            exact j_iret B hr rfl dX3_carry_138 (Nat.le_of_ble_eq_true rfl) (Nat.le_of_ble_eq_true rfl) () (by rw [e9]; exact fun _ => rfl) (fun H h => by rw [e9]; exact h)
          · rw [hI.2.1] at h15
            have hlt := pg_ltN (N := n) (by have := hI.1; omega) hi h15
            refine j_aload_n B dX3_carry_101 4 rfl rfl ?_
            refine j_get B (v := .ref (md 4)) pgX3 rfl (fun H h => pgM.m h) 4 (by decide) q_509 rfl rfl dX3_carry_102 ?_
            refine j_iload B dX3_carry_105 0 rfl ?_
            refine j_ialdv B (fun H h => pgM.a4 h) 2 rfl (vp_in_nI (Nat.lt_of_lt_of_le hlt hI.1) (by omega)) (v := σ 3 i) (congrArg _ (nI_clamp (by have := hI.1; omega))) dX3_carry_107 ?_
            refine j_iload_n B dX3_carry_108 3 rfl rfl ?_
            refine j_icmp_ne B 130 dX3_carry_109 (by decide) (fun h16 => ?_) (fun h16 => ?_)
            · refine j_iinc B (v := nI (i + 1)) (L' := [(5, .int (nI (i + 1))), (4, .int (σ 10 (ix c))), (2, .int to), (1, .int c), (0, .ref (md 0))]) dX3_carry_130 0 rfl (nI_1 i) (by decide) rfl ?_
              refine j_goto B 92 dX3_carry_133 (by decide) ?_
              refine j_locals [0, 1, 2, 3, 4] rfl ?_
              exact j_world (fun H h => pgM.eq h (pgHoN_f (σ := (pgU σ 10 (ix c) to)) (by assumption))) (ih hlt () trivial)
            · refine j_aload_n B dX3_carry_112 4 rfl rfl ?_
              refine j_get B (v := .ref (md 3)) pgX3 rfl (fun H h => pgM.m h) 3 (by decide) q_508 rfl rfl dX3_carry_113 ?_
              refine j_iload B dX3_carry_116 0 rfl ?_
              refine j_iload_n B dX3_carry_118 2 rfl rfl ?_
              refine j_iast B (Wd' := pgM D cI cZ A (pgU (pgHoN (pgU σ 10 (ix c) to) c to i) 2 i to) ρ 0 md) (fun H h => pgM.a3 h) 2 rfl (vp_in_nI (Nat.lt_of_lt_of_le hlt hI.1) (by omega)) dX3_carry_119 (hIn 3 (by omega)) (fun H H1 h hc hz ho => pgM.putA h (by decide) (pgMx rfl rfl (by decide)) (by rw [show (nI i).toNatClampNeg = i from nI_clamp (by have := hI.1; omega)] at hc; exact hc) ho) ?_
              refine j_aload_n B dX3_carry_120 4 rfl rfl ?_
              refine j_dup B dX3_carry_121 rfl ?_
              refine j_get B (v := .int ((pgHoN (pgU σ 10 (ix c) to) c to i) 13 3)) pgX3 rfl (fun H h => pgM.m h) 16 (by decide) q_521 rfl rfl dX3_carry_122 ?_
              refine j_iconst B (v := 1) dX3_carry_125 (by decide) ?_
              refine j_iadd B dX3_carry_126 ?_
              refine j_put B (Wd' := pgM D cI cZ A (pgU (pgU (pgHoN (pgU σ 10 (ix c) to) c to i) 2 i to) 13 3 (((pgHoN (pgU σ 10 (ix c) to) c to i) 13 3) + 1)) ρ 0 md) pgX3 tyX3 tyX3_ok nmX3 rfl (fun H h => pgM.m h) 16 (by decide) q_521 rfl rfl rfl rfl rfl (Nat.le_of_ble_eq_true rfl) dX3_carry_127 (hIn 0 (by omega)) (fun H H1 h hc hz ho => pgM.putN h pgMs16 hc ho) ?_
              refine j_iinc B (v := nI (i + 1)) (L' := [(5, .int (nI (i + 1))), (4, .int (σ 10 (ix c))), (2, .int to), (1, .int c), (0, .ref (md 0))]) dX3_carry_130 0 rfl (nI_1 i) (by decide) rfl ?_
              refine j_goto B 92 dX3_carry_133 (by decide) ?_
              refine j_locals [0, 1, 2, 3, 4] rfl ?_
              exact j_world (fun H h => pgM.sim h (pgHo_sim.trans_eq (pgHoN_t (σ := (pgU σ 10 (ix c) to)) (by assumption)))) (ih hlt () trivial)
        · refine j_aload_n B dX3_carry_53 1 rfl rfl ?_
          refine j_iload_n B dX3_carry_54 2 rfl rfl ?_
          refine j_cVi B (S := Unit) 1 [.int c] (WdC' := fun _ => pgM D cI cZ A σ ρ th md) (fun _ => pgM D cI cZ A σ ρ th md) (c_X3_countIn l D cD cC cI cZ cL A σ ρ th md n hI.1 hI.2.1 c) rfl (fun H h => pgM.m h) q_610 q_612 q_p10 q_3 q_613 hdX3_countIn rfl ⟨Nat.le_of_ble_eq_true rfl, Nat.le_of_ble_eq_true rfl⟩ (Nat.le_of_ble_eq_true rfl) dX3_carry_55 rfl ⟨Nat.le_of_ble_eq_true rfl, Nat.le_of_ble_eq_true rfl⟩ (fun _ h => h) (fun _ _ _ _ h => h) (fun _ h => h) (fun _ _ _ _ h _ _ => h) (fun r17 _ hp18 => ?_)
          obtain rfl : r17 = pgCnt σ n c := hp18
          refine j_if_le B 65 dX3_carry_58 (by decide) (fun h19 => ?_) (fun h19 => ?_)
          · refine j_iconst B (v := 0) dX3_carry_65 (by decide) ?_
            refine j_cVi B (S := Unit) 1 [.int 0] (WdC' := fun _ => pgM D cI cZ A σ ρ 0 md) (fun _ => pgM D cI cZ A σ ρ 0 md) (c_X3_can l D cD cC cI cZ cL A σ ρ th md 0) rfl (fun H h => pgM.m h) q_579 q_581 q_p6 q_3 q_582 hdX3_can rfl ⟨Nat.le_of_ble_eq_true rfl, Nat.le_of_ble_eq_true rfl⟩ (Nat.le_of_ble_eq_true rfl) dX3_carry_66 rfl ⟨Nat.le_of_ble_eq_true rfl, Nat.le_of_ble_eq_true rfl⟩ (fun _ h => h) (fun _ _ _ _ h => h) (fun _ h => h) (fun _ _ _ _ h _ _ => h) (fun r20 _ hp21 => ?_)
            obtain rfl : r20 = 1 := by rw [hp21]; rfl
            refine j_if_ne B 74 dX3_carry_69 (by decide) (fun h22 => ?_) (fun h22 => (absurd h22 (by decide)))
            refine j_aload_n B dX3_carry_74 1 rfl rfl ?_
            refine j_get B (v := .ref (md 11)) pgX3 rfl (fun H h => pgM.m h) 11 (by decide) q_516 rfl rfl dX3_carry_75 ?_
            refine j_iload_n B dX3_carry_78 2 rfl rfl ?_
            refine j_ialdv B (fun H h => pgM.a11 h) 2 rfl (pg_inC h3) (v := σ 10 (ix c)) rfl dX3_carry_79 ?_
            refine j_istore B (L' := [(4, .int (σ 10 (ix c))), (3, .int 1), (0, .ref (md 0)), (1, .int c), (2, .int to)]) dX3_carry_80 (by decide) rfl ?_
            refine j_aload_n B dX3_carry_82 2 rfl rfl ?_
            refine j_get B (v := .ref (md 11)) pgX3 rfl (fun H h => pgM.m h) 11 (by decide) q_516 rfl rfl dX3_carry_83 ?_
            refine j_iload_n B dX3_carry_86 3 rfl rfl ?_
            refine j_iload_n B dX3_carry_87 4 rfl rfl ?_
            refine j_iast B (Wd' := pgM D cI cZ A (pgU σ 10 (ix c) to) ρ 0 md) (fun H h => pgM.a11 h) 2 rfl (pg_inC h3) dX3_carry_88 (hIn 11 (by omega)) (fun H H1 h hc hz ho => pgM.putA h (by decide) (pgMx rfl rfl (by decide)) hc ho) ?_
            refine j_iconst B (v := 0) dX3_carry_89 (by decide) ?_
            refine j_istore B (L' := [(5, .int 0), (4, .int (σ 10 (ix c))), (3, .int 1), (0, .ref (md 0)), (1, .int c), (2, .int to)]) dX3_carry_90 (by decide) rfl ?_
            refine j_locals [0, 1, 5, 4, 3] rfl ?_
            refine j_world (Wd' := pgM D cI cZ A (pgHoN (pgU σ 10 (ix c) to) c to 0) ρ 0 md) (fun H h => pgM.eq h pgHoN_0) ?_
            refine j_loop (N := n) (X := Unit) (fun i x => True) (fun i x => pgM D cI cZ A (pgHoN (pgU σ 10 (ix c) to) c to i) ρ 0 md) (fun i x => [(5, .int (nI i)), (4, .int (σ 10 (ix c))), (2, .int to), (1, .int c), (0, .ref (md 0))]) (fun i x hi hv ih => ?_) 0 () (by omega) trivial
            refine j_iload B dX3_carry_92 0 rfl ?_
            refine j_aload_n B dX3_carry_94 4 rfl rfl ?_
            refine j_get B (v := .int (σ 13 0)) pgX3 rfl (fun H h => pgM.m h) 0 (by decide) q_505 rfl rfl dX3_carry_95 ?_
            refine j_icmp_ge B 136 dX3_carry_98 (by decide) (fun h23 => ?_) (fun h23 => ?_)
            · rw [hI.2.1] at h23
              obtain rfl := pg_eqN hi (by have := hI.1; omega) h23
              refine j_iload B dX3_carry_136 1 rfl ?_
              have hn7 := pgI_n hI
              have e9 : sp_carry σ c to = (0, σ 10 (ix c), pgHoN (pgU σ 10 (ix c) to) c to n) := by
                simp only [sp_carry, hn7]; grind
              exact j_iret B hr rfl dX3_carry_138 (Nat.le_of_ble_eq_true rfl) (Nat.le_of_ble_eq_true rfl) () (by rw [e9]; exact fun _ => rfl) (fun H h => by rw [e9]; exact h)
            · rw [hI.2.1] at h23
              have hlt := pg_ltN (N := n) (by have := hI.1; omega) hi h23
              refine j_aload_n B dX3_carry_101 4 rfl rfl ?_
              refine j_get B (v := .ref (md 4)) pgX3 rfl (fun H h => pgM.m h) 4 (by decide) q_509 rfl rfl dX3_carry_102 ?_
              refine j_iload B dX3_carry_105 0 rfl ?_
              refine j_ialdv B (fun H h => pgM.a4 h) 2 rfl (vp_in_nI (Nat.lt_of_lt_of_le hlt hI.1) (by omega)) (v := σ 3 i) (congrArg _ (nI_clamp (by have := hI.1; omega))) dX3_carry_107 ?_
              refine j_iload_n B dX3_carry_108 3 rfl rfl ?_
              refine j_icmp_ne B 130 dX3_carry_109 (by decide) (fun h24 => ?_) (fun h24 => ?_)
              · refine j_iinc B (v := nI (i + 1)) (L' := [(5, .int (nI (i + 1))), (4, .int (σ 10 (ix c))), (2, .int to), (1, .int c), (0, .ref (md 0))]) dX3_carry_130 0 rfl (nI_1 i) (by decide) rfl ?_
                refine j_goto B 92 dX3_carry_133 (by decide) ?_
                refine j_locals [0, 1, 2, 3, 4] rfl ?_
                exact j_world (fun H h => pgM.eq h (pgHoN_f (σ := (pgU σ 10 (ix c) to)) (by assumption))) (ih hlt () trivial)
              · refine j_aload_n B dX3_carry_112 4 rfl rfl ?_
                refine j_get B (v := .ref (md 3)) pgX3 rfl (fun H h => pgM.m h) 3 (by decide) q_508 rfl rfl dX3_carry_113 ?_
                refine j_iload B dX3_carry_116 0 rfl ?_
                refine j_iload_n B dX3_carry_118 2 rfl rfl ?_
                refine j_iast B (Wd' := pgM D cI cZ A (pgU (pgHoN (pgU σ 10 (ix c) to) c to i) 2 i to) ρ 0 md) (fun H h => pgM.a3 h) 2 rfl (vp_in_nI (Nat.lt_of_lt_of_le hlt hI.1) (by omega)) dX3_carry_119 (hIn 3 (by omega)) (fun H H1 h hc hz ho => pgM.putA h (by decide) (pgMx rfl rfl (by decide)) (by rw [show (nI i).toNatClampNeg = i from nI_clamp (by have := hI.1; omega)] at hc; exact hc) ho) ?_
                refine j_aload_n B dX3_carry_120 4 rfl rfl ?_
                refine j_dup B dX3_carry_121 rfl ?_
                refine j_get B (v := .int ((pgHoN (pgU σ 10 (ix c) to) c to i) 13 3)) pgX3 rfl (fun H h => pgM.m h) 16 (by decide) q_521 rfl rfl dX3_carry_122 ?_
                refine j_iconst B (v := 1) dX3_carry_125 (by decide) ?_
                refine j_iadd B dX3_carry_126 ?_
                refine j_put B (Wd' := pgM D cI cZ A (pgU (pgU (pgHoN (pgU σ 10 (ix c) to) c to i) 2 i to) 13 3 (((pgHoN (pgU σ 10 (ix c) to) c to i) 13 3) + 1)) ρ 0 md) pgX3 tyX3 tyX3_ok nmX3 rfl (fun H h => pgM.m h) 16 (by decide) q_521 rfl rfl rfl rfl rfl (Nat.le_of_ble_eq_true rfl) dX3_carry_127 (hIn 0 (by omega)) (fun H H1 h hc hz ho => pgM.putN h pgMs16 hc ho) ?_
                refine j_iinc B (v := nI (i + 1)) (L' := [(5, .int (nI (i + 1))), (4, .int (σ 10 (ix c))), (2, .int to), (1, .int c), (0, .ref (md 0))]) dX3_carry_130 0 rfl (nI_1 i) (by decide) rfl ?_
                refine j_goto B 92 dX3_carry_133 (by decide) ?_
                refine j_locals [0, 1, 2, 3, 4] rfl ?_
                exact j_world (fun H h => pgM.sim h (pgHo_sim.trans_eq (pgHoN_t (σ := (pgU σ 10 (ix c) to)) (by assumption)))) (ih hlt () trivial)
          · refine j_iconst B (v := 3) dX3_carry_61 (by decide) ?_
            refine j_goto B 66 dX3_carry_62 (by decide) ?_
            refine j_cVi B (S := Unit) 1 [.int 3] (WdC' := fun _ => pgM D cI cZ A σ ρ 3 md) (fun _ => pgM D cI cZ A σ ρ 3 md) (c_X3_can l D cD cC cI cZ cL A σ ρ th md 3) rfl (fun H h => pgM.m h) q_579 q_581 q_p6 q_3 q_582 hdX3_can rfl ⟨Nat.le_of_ble_eq_true rfl, Nat.le_of_ble_eq_true rfl⟩ (Nat.le_of_ble_eq_true rfl) dX3_carry_66 rfl ⟨Nat.le_of_ble_eq_true rfl, Nat.le_of_ble_eq_true rfl⟩ (fun _ h => h) (fun _ _ _ _ h => h) (fun _ h => h) (fun _ _ _ _ h _ _ => h) (fun r25 _ hp26 => ?_)
            obtain rfl : r25 = 0 := by rw [hp26]; rfl
            refine j_if_ne B 74 dX3_carry_69 (by decide) (fun h27 => (absurd (by decide) h27)) (fun h27 => ?_)
            refine j_iconst B (v := 0) dX3_carry_72 (by decide) ?_
            have hn7 := pgI_n hI
            have e1 : (sp_carry σ c to).1 = 3 := by
              simp only [sp_carry, hn7]; grind
            have e2 : (sp_carry σ c to).2.2 = σ := by
              simp only [sp_carry, hn7]; grind
            exact j_iret B hr rfl dX3_carry_73 (Nat.le_of_ble_eq_true rfl) (Nat.le_of_ble_eq_true rfl) () (by rw [e1]; exact fun h => absurd h (by decide)) (fun H h => by rw [e1, e2]; exact h)
      · refine j_iconst B (v := 2) dX3_carry_39 (by decide) ?_
        refine j_goto B 66 dX3_carry_40 (by decide) ?_
        refine j_cVi B (S := Unit) 1 [.int 2] (WdC' := fun _ => pgM D cI cZ A σ ρ 2 md) (fun _ => pgM D cI cZ A σ ρ 2 md) (c_X3_can l D cD cC cI cZ cL A σ ρ th md 2) rfl (fun H h => pgM.m h) q_579 q_581 q_p6 q_3 q_582 hdX3_can rfl ⟨Nat.le_of_ble_eq_true rfl, Nat.le_of_ble_eq_true rfl⟩ (Nat.le_of_ble_eq_true rfl) dX3_carry_66 rfl ⟨Nat.le_of_ble_eq_true rfl, Nat.le_of_ble_eq_true rfl⟩ (fun _ h => h) (fun _ _ _ _ h => h) (fun _ h => h) (fun _ _ _ _ h _ _ => h) (fun r28 _ hp29 => ?_)
        obtain rfl : r28 = 0 := by rw [hp29]; rfl
        refine j_if_ne B 74 dX3_carry_69 (by decide) (fun h30 => (absurd (by decide) h30)) (fun h30 => ?_)
        refine j_iconst B (v := 0) dX3_carry_72 (by decide) ?_
        have hn7 := pgI_n hI
        have e1 : (sp_carry σ c to).1 = 2 := by
          simp only [sp_carry, hn7]; grind
        have e2 : (sp_carry σ c to).2.2 = σ := by
          simp only [sp_carry, hn7]; grind
        exact j_iret B hr rfl dX3_carry_73 (Nat.le_of_ble_eq_true rfl) (Nat.le_of_ble_eq_true rfl) () (by rw [e1]; exact fun h => absurd h (by decide)) (fun H h => by rw [e1, e2]; exact h)
    · obtain rfl : r5 = 0 := by rw [hp6]; exact if_neg h7
      refine j_if_eq B 18 dX3_carry_11 (by decide) (fun h31 => ?_) (fun h31 => (absurd (by decide) h31))
      refine j_iconst B (v := 0) dX3_carry_18 (by decide) ?_
      refine j_istore_n B (L' := [(3, .int 0), (0, .ref (md 0)), (1, .int c), (2, .int to)]) dX3_carry_19 rfl (by decide) rfl ?_
      refine j_aload_n B dX3_carry_20 1 rfl rfl ?_
      refine j_iload_n B dX3_carry_21 0 rfl rfl ?_
      refine j_if_ne B 29 dX3_carry_22 (by decide) (fun h32 => (absurd (by decide) h32)) (fun h32 => ?_)
      refine j_iconst B (v := 1) dX3_carry_25 (by decide) ?_
      refine j_goto B 66 dX3_carry_26 (by decide) ?_
      refine j_cVi B (S := Unit) 1 [.int 1] (WdC' := fun _ => pgM D cI cZ A σ ρ 1 md) (fun _ => pgM D cI cZ A σ ρ 1 md) (c_X3_can l D cD cC cI cZ cL A σ ρ th md 1) rfl (fun H h => pgM.m h) q_579 q_581 q_p6 q_3 q_582 hdX3_can rfl ⟨Nat.le_of_ble_eq_true rfl, Nat.le_of_ble_eq_true rfl⟩ (Nat.le_of_ble_eq_true rfl) dX3_carry_66 rfl ⟨Nat.le_of_ble_eq_true rfl, Nat.le_of_ble_eq_true rfl⟩ (fun _ h => h) (fun _ _ _ _ h => h) (fun _ h => h) (fun _ _ _ _ h _ _ => h) (fun r33 _ hp34 => ?_)
      obtain rfl : r33 = 0 := by rw [hp34]; rfl
      refine j_if_ne B 74 dX3_carry_69 (by decide) (fun h35 => (absurd (by decide) h35)) (fun h35 => ?_)
      refine j_iconst B (v := 0) dX3_carry_72 (by decide) ?_
      have hn7 := pgI_n hI
      have e1 : (sp_carry σ c to).1 = 1 := by
        simp only [sp_carry, hn7]; grind
      have e2 : (sp_carry σ c to).2.2 = σ := by
        simp only [sp_carry, hn7]; grind
      exact j_iret B hr rfl dX3_carry_73 (Nat.le_of_ble_eq_true rfl) (Nat.le_of_ble_eq_true rfl) () (by rw [e1]; exact fun h => absurd h (by decide)) (fun H h => by rw [e1, e2]; exact h)
  · obtain rfl : r1 = 0 := by rw [hp2]; exact if_neg h3
    refine j_if_eq B 18 dX3_carry_4 (by decide) (fun h36 => ?_) (fun h36 => (absurd (by decide) h36))
    refine j_iconst B (v := 0) dX3_carry_18 (by decide) ?_
    refine j_istore_n B (L' := [(3, .int 0), (0, .ref (md 0)), (1, .int c), (2, .int to)]) dX3_carry_19 rfl (by decide) rfl ?_
    refine j_aload_n B dX3_carry_20 1 rfl rfl ?_
    refine j_iload_n B dX3_carry_21 0 rfl rfl ?_
    refine j_if_ne B 29 dX3_carry_22 (by decide) (fun h37 => (absurd (by decide) h37)) (fun h37 => ?_)
    refine j_iconst B (v := 1) dX3_carry_25 (by decide) ?_
    refine j_goto B 66 dX3_carry_26 (by decide) ?_
    refine j_cVi B (S := Unit) 1 [.int 1] (WdC' := fun _ => pgM D cI cZ A σ ρ 1 md) (fun _ => pgM D cI cZ A σ ρ 1 md) (c_X3_can l D cD cC cI cZ cL A σ ρ th md 1) rfl (fun H h => pgM.m h) q_579 q_581 q_p6 q_3 q_582 hdX3_can rfl ⟨Nat.le_of_ble_eq_true rfl, Nat.le_of_ble_eq_true rfl⟩ (Nat.le_of_ble_eq_true rfl) dX3_carry_66 rfl ⟨Nat.le_of_ble_eq_true rfl, Nat.le_of_ble_eq_true rfl⟩ (fun _ h => h) (fun _ _ _ _ h => h) (fun _ h => h) (fun _ _ _ _ h _ _ => h) (fun r38 _ hp39 => ?_)
    obtain rfl : r38 = 0 := by rw [hp39]; rfl
    refine j_if_ne B 74 dX3_carry_69 (by decide) (fun h40 => (absurd (by decide) h40)) (fun h40 => ?_)
    refine j_iconst B (v := 0) dX3_carry_72 (by decide) ?_
    have hn7 := pgI_n hI
    have e1 : (sp_carry σ c to).1 = 1 := by
      simp only [sp_carry, hn7]; grind
    have e2 : (sp_carry σ c to).2.2 = σ := by
      simp only [sp_carry, hn7]; grind
    exact j_iret B hr rfl dX3_carry_73 (Nat.le_of_ble_eq_true rfl) (Nat.le_of_ble_eq_true rfl) () (by rw [e1]; exact fun h => absurd h (by decide)) (fun H h => by rw [e1, e2]; exact h)
set_option maxHeartbeats 4000000 in
set_option maxRecDepth 100000 in
/-- certify, a keeper -/
theorem c_X3_certify_a (l : Launch) (D : va_G) (cD cC cI cZ cL : ClassId) (A : Nat → Prop) (σ : pgSt) (ρ : Nat → Int32) (th : Int32) (md : Nat → Nat) (n : Nat) (hI : pgI n σ) (k0 : Int32) (hK : pgIsK k0) : Met l yX3_certify (.code yX3_certify cX3_certify 4 (some .int) :: pgWd) ({ frames := 2, cells := 0, slots := 0, locals := 42 } : Room) (pgPc D (pgTys cD cC cI cZ cL) A (pgM D cI cZ A σ ρ th md) [.ref (md 0), .int k0]) (va_Qi (fun (r : Int32) (_ : Unit) => (sp_certify σ k0).1 = 0 → r = (sp_certify σ k0).2.1) (fun _ t9 => pgM D cI cZ A ((sp_certify σ k0).2.2) ρ (pgKB (sp_certify σ k0).1) md t9.heap) A) 0 0 A := by
  refine pg_enter (own := RX3) (by decide) rfl (Nat.le_of_ble_eq_true rfl) (fun p e s m below meth cc9 B hr hnm => ?_)
  refine j_fact (fun H h => pgM.inA h) (fun hIn => ?_)
  refine j_iconst B (v := 0) dX3_certify_0 (by decide) ?_
  refine j_istore_n B (L' := [(2, .int 0), (0, .ref (md 0)), (1, .int k0)]) dX3_certify_1 rfl (by decide) rfl ?_
  refine j_iconst B (v := 0) dX3_certify_2 (by decide) ?_
  refine j_istore_n B (L' := [(3, .int 0), (2, .int 0), (0, .ref (md 0)), (1, .int k0)]) dX3_certify_3 rfl (by decide) rfl ?_
  refine j_locals [0, 1, 3, 2] rfl ?_
  refine j_world (Wd' := pgM D cI cZ A (pgCe σ k0 (σ 13 4) 0) ρ th md) (fun H h => pgM.eq h pgCe_0) ?_
  refine j_loop (N := n) (X := Int32) (fun i x => x = nI (pgN (fun j => decide (σ 2 j = k0 ∧ pgAw σ j)) i)) (fun i x => pgM D cI cZ A (pgCe σ k0 (σ 13 4) i) ρ th md) (fun i x => [(3, .int (nI i)), (2, .int x), (1, .int k0), (0, .ref (md 0))]) (fun i x hi hv ih => ?_) 0 0 (by omega) rfl
  refine j_iload_n B dX3_certify_4 0 rfl rfl ?_
  refine j_aload_n B dX3_certify_5 3 rfl rfl ?_
  refine j_get B (v := .int (σ 13 0)) pgX3 rfl (fun H h => pgM.m h) 0 (by decide) q_505 rfl rfl dX3_certify_6 ?_
  refine j_icmp_ge B 75 dX3_certify_9 (by decide) (fun h1 => ?_) (fun h1 => ?_)
  · rw [hI.2.1] at h1
    obtain rfl := pg_eqN hi (by have := hI.1; omega) h1
    have hc0 : pgCeN σ k0 n ≤ 60 := Nat.le_trans (pgN_le _ _) hI.1
    refine j_aload_n B dX3_certify_75 3 rfl rfl ?_
    refine j_iload_n B dX3_certify_76 2 rfl rfl ?_
    refine j_cSi B (S := Unit) 1 [.int k0] (WdC' := fun _ => pgM D cI cZ A (pgCe σ k0 (σ 13 4) n) ρ th md) (fun _ => pgM D cI cZ A (pgCe σ k0 (σ 13 4) n) ρ th md) (c_X3_isKeeper l D cD cC cI cZ cL A (pgCe σ k0 (σ 13 4) n) ρ th md k0) q_576 q_577 q_3 q_578 hdX3_isKeeper rfl ⟨Nat.le_of_ble_eq_true rfl, Nat.le_of_ble_eq_true rfl⟩ (Nat.le_of_ble_eq_true rfl) dX3_certify_77 rfl ⟨Nat.le_of_ble_eq_true rfl, Nat.le_of_ble_eq_true rfl⟩ (fun _ h => h) (fun _ _ _ _ h => h) (fun _ h => h) (fun _ _ _ _ h _ _ => h) (fun r2 _ hp3 => ?_)
    obtain rfl : r2 = 1 := by rw [hp3]; exact if_pos hK
    refine j_if_ne B 87 dX3_certify_80 (by decide) (fun h5 => ?_) (fun h5 => (absurd h5 (by decide)))
    refine j_iload_n B dX3_certify_87 1 rfl rfl ?_
    refine j_if_ne B 95 dX3_certify_88 (by decide) (fun h6 => ?_) (fun h6 => ?_)
    · refine j_iconst B (v := 0) dX3_certify_95 (by decide) ?_
      refine j_cVi B (S := Unit) 1 [.int 0] (WdC' := fun _ => pgM D cI cZ A (pgCe σ k0 (σ 13 4) n) ρ 0 md) (fun _ => pgM D cI cZ A (pgCe σ k0 (σ 13 4) n) ρ 0 md) (c_X3_can l D cD cC cI cZ cL A (pgCe σ k0 (σ 13 4) n) ρ th md 0) rfl (fun H h => pgM.m h) q_579 q_581 q_p6 q_3 q_582 hdX3_can rfl ⟨Nat.le_of_ble_eq_true rfl, Nat.le_of_ble_eq_true rfl⟩ (Nat.le_of_ble_eq_true rfl) dX3_certify_96 rfl ⟨Nat.le_of_ble_eq_true rfl, Nat.le_of_ble_eq_true rfl⟩ (fun _ h => h) (fun _ _ _ _ h => h) (fun _ h => h) (fun _ _ _ _ h _ _ => h) (fun r7 _ hp8 => ?_)
      obtain rfl : r7 = 1 := by rw [hp8]; rfl
      refine j_if_ne B 104 dX3_certify_99 (by decide) (fun h9 => ?_) (fun h9 => (absurd h9 (by decide)))
      refine j_aload_n B dX3_certify_104 3 rfl rfl ?_
      refine j_dup B dX3_certify_105 rfl ?_
      refine j_get B (v := .int (σ 13 4)) pgX3 rfl (fun H h => pgM.m h) 17 (by decide) q_522 rfl rfl dX3_certify_106 ?_
      refine j_iconst B (v := 1) dX3_certify_109 (by decide) ?_
      refine j_iadd B dX3_certify_110 ?_
      refine j_put B (Wd' := pgM D cI cZ A (pgU (pgCe σ k0 (σ 13 4) n) 13 4 ((σ 13 4) + 1)) ρ 0 md) pgX3 tyX3 tyX3_ok nmX3 rfl (fun H h => pgM.m h) 17 (by decide) q_522 rfl rfl rfl rfl rfl (Nat.le_of_ble_eq_true rfl) dX3_certify_111 (hIn 0 (by omega)) (fun H H1 h hc hz ho => pgM.putN h pgMs17 hc ho) ?_
      refine j_iload_n B dX3_certify_114 1 rfl rfl ?_
      have hn7 := pgI_n hI
      have hnz : ¬ pgCeN σ k0 n = 0 := fun z => by
        have hv2 : x = nI (pgCeN σ k0 n) := hv
        rw [z] at hv2
        exact absurd hv2 (by assumption)
      have e9 : sp_certify σ k0 = (0, x, pgU (pgCe σ k0 (σ 13 4) n) 13 4 (σ 13 4 + 1)) := by
        rw [show x = nI (pgCeN σ k0 n) from hv]
        simp only [sp_certify, hn7]
        grind
      exact j_iret B hr rfl dX3_certify_115 (Nat.le_of_ble_eq_true rfl) (Nat.le_of_ble_eq_true rfl) () (by rw [e9]; exact fun _ => rfl) (fun H h => by rw [e9]; exact h)
    · refine j_iconst B (v := 2) dX3_certify_91 (by decide) ?_
      refine j_goto B 96 dX3_certify_92 (by decide) ?_
      refine j_cVi B (S := Unit) 1 [.int 2] (WdC' := fun _ => pgM D cI cZ A (pgCe σ k0 (σ 13 4) n) ρ 2 md) (fun _ => pgM D cI cZ A (pgCe σ k0 (σ 13 4) n) ρ 2 md) (c_X3_can l D cD cC cI cZ cL A (pgCe σ k0 (σ 13 4) n) ρ th md 2) rfl (fun H h => pgM.m h) q_579 q_581 q_p6 q_3 q_582 hdX3_can rfl ⟨Nat.le_of_ble_eq_true rfl, Nat.le_of_ble_eq_true rfl⟩ (Nat.le_of_ble_eq_true rfl) dX3_certify_96 rfl ⟨Nat.le_of_ble_eq_true rfl, Nat.le_of_ble_eq_true rfl⟩ (fun _ h => h) (fun _ _ _ _ h => h) (fun _ h => h) (fun _ _ _ _ h _ _ => h) (fun r10 _ hp11 => ?_)
      obtain rfl : r10 = 0 := by rw [hp11]; rfl
      refine j_if_ne B 104 dX3_certify_99 (by decide) (fun h12 => (absurd (by decide) h12)) (fun h12 => ?_)
      refine j_iconst B (v := 0) dX3_certify_102 (by decide) ?_
      have hn7 := pgI_n hI
      have hz0 : pgCeN σ k0 n = 0 := nI_z hc0 (by rw [← show x = nI (pgCeN σ k0 n) from hv]; assumption)
      have e1 : sp_certify σ k0 = (4, 0, σ) := by
        simp only [sp_certify, hn7]
        grind
      exact j_iret B hr rfl dX3_certify_103 (Nat.le_of_ble_eq_true rfl) (Nat.le_of_ble_eq_true rfl) () (by rw [e1]; exact fun h => absurd h (show ¬ (4 : Nat) = 0 by decide)) (fun H h => by rw [e1]; exact pgM.eq h (pgCe_none hz0))
  · rw [hI.2.1] at h1
    have hlt := pg_ltN (N := n) (by have := hI.1; omega) hi h1
    refine j_iload_n B dX3_certify_12 2 rfl rfl ?_
    refine j_cSi B (S := Unit) 1 [.int k0] (WdC' := fun _ => pgM D cI cZ A (pgCe σ k0 (σ 13 4) i) ρ th md) (fun _ => pgM D cI cZ A (pgCe σ k0 (σ 13 4) i) ρ th md) (c_X3_isKeeper l D cD cC cI cZ cL A (pgCe σ k0 (σ 13 4) i) ρ th md k0) q_576 q_577 q_3 q_578 hdX3_isKeeper rfl ⟨Nat.le_of_ble_eq_true rfl, Nat.le_of_ble_eq_true rfl⟩ (Nat.le_of_ble_eq_true rfl) dX3_certify_13 rfl ⟨Nat.le_of_ble_eq_true rfl, Nat.le_of_ble_eq_true rfl⟩ (fun _ h => h) (fun _ _ _ _ h => h) (fun _ h => h) (fun _ _ _ _ h _ _ => h) (fun r13 _ hp14 => ?_)
    obtain rfl : r13 = 1 := by rw [hp14]; exact if_pos hK
    refine j_if_eq B 75 dX3_certify_16 (by decide) (fun h16 => (absurd h16 (by decide))) (fun h16 => ?_)
    refine j_aload_n B dX3_certify_19 3 rfl rfl ?_
    refine j_get B (v := .ref (md 3)) pgX3 rfl (fun H h => pgM.m h) 3 (by decide) q_508 rfl rfl dX3_certify_20 ?_
    refine j_iload_n B dX3_certify_23 0 rfl rfl ?_
    refine j_ialdv B (fun H h => pgM.a3 h) 2 rfl (vp_in_nI (Nat.lt_of_lt_of_le hlt hI.1) (by omega)) (v := σ 2 i) (congrArg _ (nI_clamp (by have := hI.1; omega))) dX3_certify_24 ?_
    refine j_iload_n B dX3_certify_25 2 rfl rfl ?_
    refine j_icmp_ne B 69 dX3_certify_26 (by decide) (fun h17 => ?_) (fun h17 => ?_)
    · refine j_iinc B (v := nI (i + 1)) (L' := [(3, .int (nI (i + 1))), (2, .int x), (1, .int k0), (0, .ref (md 0))]) dX3_certify_69 0 rfl (nI_1 i) (by decide) rfl ?_
      refine j_goto B 4 dX3_certify_72 (by decide) ?_
      refine j_locals [0, 1, 2, 3] rfl ?_
      have z : ¬ (σ 2 i = k0 ∧ pgAw σ i) := fun q => by grind
      exact j_world (fun H h => pgM.eq h (pgCe_f z)) (ih hlt _ (pgN_f2 hv (fun q => z (of_decide_eq_true q))))
    · refine j_aload_n B dX3_certify_29 3 rfl rfl ?_
      refine j_iload_n B dX3_certify_30 0 rfl rfl ?_
      refine j_cVi B (S := Unit) 1 [.int (nI i)] (WdC' := fun _ => pgM D cI cZ A (pgCe σ k0 (σ 13 4) i) ρ th md) (fun _ => pgM D cI cZ A (pgCe σ k0 (σ 13 4) i) ρ th md) (c_X3_isOver l D cD cC cI cZ cL A (pgCe σ k0 (σ 13 4) i) ρ th md (nI i) (vp_in_nI (Nat.lt_of_lt_of_le hlt hI.1) (by omega))) rfl (fun H h => pgM.m h) q_654 q_656 q_p11 q_3 q_657 hdX3_isOver rfl ⟨Nat.le_of_ble_eq_true rfl, Nat.le_of_ble_eq_true rfl⟩ (Nat.le_of_ble_eq_true rfl) dX3_certify_31 rfl ⟨Nat.le_of_ble_eq_true rfl, Nat.le_of_ble_eq_true rfl⟩ (fun _ h => h) (fun _ _ _ _ h => h) (fun _ h => h) (fun _ _ _ _ h _ _ => h) (fun r18 _ hp19 => ?_)
      by_cases h20 : pgFin (pgCe σ k0 (σ 13 4) i) (ix (nI i))
      · obtain rfl : r18 = 1 := by rw [hp19]; exact if_pos h20
        rw [pgCe_fin (by have := hI.1; omega)] at h20
        refine j_if_eq B 69 dX3_certify_34 (by decide) (fun h21 => (absurd h21 (by decide))) (fun h21 => ?_)
        refine j_aload_n B dX3_certify_37 3 rfl rfl ?_
        refine j_get B (v := .ref (md 6)) pgX3 rfl (fun H h => pgM.m h) 6 (by decide) q_511 rfl rfl dX3_certify_38 ?_
        refine j_iload_n B dX3_certify_41 0 rfl rfl ?_
        refine j_zaldv B (fun H h => pgM.a6 h) 3 rfl (vp_in_nI (Nat.lt_of_lt_of_le hlt hI.1) (by omega)) (v := σ 5 i) (congrArg _ (nI_clamp (by have := hI.1; omega))) dX3_certify_42 ?_
        refine j_if_ne B 69 dX3_certify_43 (by decide) (fun h22 => ?_) (fun h22 => ?_)
        · refine j_iinc B (v := nI (i + 1)) (L' := [(3, .int (nI (i + 1))), (2, .int x), (1, .int k0), (0, .ref (md 0))]) dX3_certify_69 0 rfl (nI_1 i) (by decide) rfl ?_
          refine j_goto B 4 dX3_certify_72 (by decide) ?_
          refine j_locals [0, 1, 2, 3] rfl ?_
          have z : ¬ (σ 2 i = k0 ∧ pgAw σ i) := fun q => by grind
          exact j_world (fun H h => pgM.eq h (pgCe_f z)) (ih hlt _ (pgN_f2 hv (fun q => z (of_decide_eq_true q))))
        · refine j_aload_n B dX3_certify_46 3 rfl rfl ?_
          refine j_get B (v := .ref (md 10)) pgX3 rfl (fun H h => pgM.m h) 10 (by decide) q_515 rfl rfl dX3_certify_47 ?_
          refine j_iload_n B dX3_certify_50 0 rfl rfl ?_
          refine j_ialdv B (fun H h => pgM.a10 h) 2 rfl (vp_in_nI (Nat.lt_of_lt_of_le hlt hI.1) (by omega)) (v := σ 9 i) ((congrArg _ (nI_clamp (by have := hI.1; omega))).trans pgCe_9) dX3_certify_51 ?_
          refine j_iconst B (v := (-1)) dX3_certify_52 (by decide) ?_
          refine j_icmp_ne B 69 dX3_certify_53 (by decide) (fun h23 => ?_) (fun h23 => ?_)
          · refine j_iinc B (v := nI (i + 1)) (L' := [(3, .int (nI (i + 1))), (2, .int x), (1, .int k0), (0, .ref (md 0))]) dX3_certify_69 0 rfl (nI_1 i) (by decide) rfl ?_
            refine j_goto B 4 dX3_certify_72 (by decide) ?_
            refine j_locals [0, 1, 2, 3] rfl ?_
            have z : ¬ (σ 2 i = k0 ∧ pgAw σ i) := fun q => by grind
            exact j_world (fun H h => pgM.eq h (pgCe_f z)) (ih hlt _ (pgN_f2 hv (fun q => z (of_decide_eq_true q))))
          · refine j_aload_n B dX3_certify_56 3 rfl rfl ?_
            refine j_get B (v := .ref (md 10)) pgX3 rfl (fun H h => pgM.m h) 10 (by decide) q_515 rfl rfl dX3_certify_57 ?_
            refine j_iload_n B dX3_certify_60 0 rfl rfl ?_
            refine j_aload_n B dX3_certify_61 3 rfl rfl ?_
            refine j_get B (v := .int (σ 13 4)) pgX3 rfl (fun H h => pgM.m h) 17 (by decide) q_522 rfl rfl dX3_certify_62 ?_
            refine j_iast B (Wd' := pgM D cI cZ A (pgU (pgCe σ k0 (σ 13 4) i) 9 i (σ 13 4)) ρ th md) (fun H h => pgM.a10 h) 2 rfl (vp_in_nI (Nat.lt_of_lt_of_le hlt hI.1) (by omega)) dX3_certify_65 (hIn 10 (by omega)) (fun H H1 h hc hz ho => pgM.putA h (by decide) (pgMx rfl rfl (by decide)) (by rw [show (nI i).toNatClampNeg = i from nI_clamp (by have := hI.1; omega)] at hc; exact hc) ho) ?_
            refine j_iinc B (v := (x + 1)) (L' := [(2, .int (x + 1)), (3, .int (nI i)), (1, .int k0), (0, .ref (md 0))]) dX3_certify_66 1 rfl rfl (by decide) rfl ?_
            refine j_iinc B (v := nI (i + 1)) (L' := [(3, .int (nI (i + 1))), (2, .int (x + 1)), (1, .int k0), (0, .ref (md 0))]) dX3_certify_69 1 rfl (nI_1 i) (by decide) rfl ?_
            refine j_goto B 4 dX3_certify_72 (by decide) ?_
            refine j_locals [0, 1, 2, 3] rfl ?_
            have z : σ 2 i = k0 ∧ pgAw σ i := ⟨by assumption, by assumption, by assumption, by assumption⟩
            exact j_world (fun H h => pgM.eq h (pgCe_t z)) (ih hlt _ (pgN_t2 hv (decide_eq_true z)))
      · obtain rfl : r18 = 0 := by rw [hp19]; exact if_neg h20
        rw [pgCe_fin (by have := hI.1; omega)] at h20
        refine j_if_eq B 69 dX3_certify_34 (by decide) (fun h24 => ?_) (fun h24 => (absurd (by decide) h24))
        refine j_iinc B (v := nI (i + 1)) (L' := [(3, .int (nI (i + 1))), (2, .int x), (1, .int k0), (0, .ref (md 0))]) dX3_certify_69 0 rfl (nI_1 i) (by decide) rfl ?_
        refine j_goto B 4 dX3_certify_72 (by decide) ?_
        refine j_locals [0, 1, 2, 3] rfl ?_
        have z : ¬ (σ 2 i = k0 ∧ pgAw σ i) := fun q => by grind
        exact j_world (fun H h => pgM.eq h (pgCe_f z)) (ih hlt _ (pgN_f2 hv (fun q => z (of_decide_eq_true q))))
set_option maxHeartbeats 4000000 in
set_option maxRecDepth 100000 in
/-- certify, no keeper -/
theorem c_X3_certify_b (l : Launch) (D : va_G) (cD cC cI cZ cL : ClassId) (A : Nat → Prop) (σ : pgSt) (ρ : Nat → Int32) (th : Int32) (md : Nat → Nat) (n : Nat) (hI : pgI n σ) (k0 : Int32) (hK : ¬ pgIsK k0) : Met l yX3_certify (.code yX3_certify cX3_certify 4 (some .int) :: pgWd) ({ frames := 2, cells := 0, slots := 0, locals := 42 } : Room) (pgPc D (pgTys cD cC cI cZ cL) A (pgM D cI cZ A σ ρ th md) [.ref (md 0), .int k0]) (va_Qi (fun (r : Int32) (_ : Unit) => (sp_certify σ k0).1 = 0 → r = (sp_certify σ k0).2.1) (fun _ t9 => pgM D cI cZ A ((sp_certify σ k0).2.2) ρ (pgKB (sp_certify σ k0).1) md t9.heap) A) 0 0 A := by
  refine pg_enter (own := RX3) (by decide) rfl (Nat.le_of_ble_eq_true rfl) (fun p e s m below meth cc9 B hr hnm => ?_)
  refine j_fact (fun H h => pgM.inA h) (fun hIn => ?_)
  refine j_iconst B (v := 0) dX3_certify_0 (by decide) ?_
  refine j_istore_n B (L' := [(2, .int 0), (0, .ref (md 0)), (1, .int k0)]) dX3_certify_1 rfl (by decide) rfl ?_
  refine j_iconst B (v := 0) dX3_certify_2 (by decide) ?_
  refine j_istore_n B (L' := [(3, .int 0), (2, .int 0), (0, .ref (md 0)), (1, .int k0)]) dX3_certify_3 rfl (by decide) rfl ?_
  refine j_iload_n B dX3_certify_4 0 rfl rfl ?_
  refine j_aload_n B dX3_certify_5 2 rfl rfl ?_
  refine j_get B (v := .int (σ 13 0)) pgX3 rfl (fun H h => pgM.m h) 0 (by decide) q_505 rfl rfl dX3_certify_6 ?_
  refine j_icmp_ge B 75 dX3_certify_9 (by decide) (fun h1 => ?_) (fun h1 => ?_)
  · refine j_aload_n B dX3_certify_75 2 rfl rfl ?_
    refine j_iload_n B dX3_certify_76 3 rfl rfl ?_
    refine j_cSi B (S := Unit) 1 [.int k0] (WdC' := fun _ => pgM D cI cZ A σ ρ th md) (fun _ => pgM D cI cZ A σ ρ th md) (c_X3_isKeeper l D cD cC cI cZ cL A σ ρ th md k0) q_576 q_577 q_3 q_578 hdX3_isKeeper rfl ⟨Nat.le_of_ble_eq_true rfl, Nat.le_of_ble_eq_true rfl⟩ (Nat.le_of_ble_eq_true rfl) dX3_certify_77 rfl ⟨Nat.le_of_ble_eq_true rfl, Nat.le_of_ble_eq_true rfl⟩ (fun _ h => h) (fun _ _ _ _ h => h) (fun _ h => h) (fun _ _ _ _ h _ _ => h) (fun r2 _ hp3 => ?_)
    obtain rfl : r2 = 0 := by rw [hp3]; exact if_neg hK
    refine j_if_ne B 87 dX3_certify_80 (by decide) (fun h5 => (absurd (by decide) h5)) (fun h5 => ?_)
    refine j_iconst B (v := 1) dX3_certify_83 (by decide) ?_
    refine j_goto B 96 dX3_certify_84 (by decide) ?_
    refine j_cVi B (S := Unit) 1 [.int 1] (WdC' := fun _ => pgM D cI cZ A σ ρ 1 md) (fun _ => pgM D cI cZ A σ ρ 1 md) (c_X3_can l D cD cC cI cZ cL A σ ρ th md 1) rfl (fun H h => pgM.m h) q_579 q_581 q_p6 q_3 q_582 hdX3_can rfl ⟨Nat.le_of_ble_eq_true rfl, Nat.le_of_ble_eq_true rfl⟩ (Nat.le_of_ble_eq_true rfl) dX3_certify_96 rfl ⟨Nat.le_of_ble_eq_true rfl, Nat.le_of_ble_eq_true rfl⟩ (fun _ h => h) (fun _ _ _ _ h => h) (fun _ h => h) (fun _ _ _ _ h _ _ => h) (fun r6 _ hp7 => ?_)
    obtain rfl : r6 = 0 := by rw [hp7]; rfl
    refine j_if_ne B 104 dX3_certify_99 (by decide) (fun h8 => (absurd (by decide) h8)) (fun h8 => ?_)
    refine j_iconst B (v := 0) dX3_certify_102 (by decide) ?_
    have e1 : sp_certify σ k0 = (1, 0, σ) := by
      simp only [sp_certify]
      grind
    exact j_iret B hr rfl dX3_certify_103 (Nat.le_of_ble_eq_true rfl) (Nat.le_of_ble_eq_true rfl) () (by rw [e1]; exact fun h => absurd h (show ¬ (1 : Nat) = 0 by decide)) (fun H h => by rw [e1]; exact h)
  · refine j_iload_n B dX3_certify_12 3 rfl rfl ?_
    refine j_cSi B (S := Unit) 1 [.int k0] (WdC' := fun _ => pgM D cI cZ A σ ρ th md) (fun _ => pgM D cI cZ A σ ρ th md) (c_X3_isKeeper l D cD cC cI cZ cL A σ ρ th md k0) q_576 q_577 q_3 q_578 hdX3_isKeeper rfl ⟨Nat.le_of_ble_eq_true rfl, Nat.le_of_ble_eq_true rfl⟩ (Nat.le_of_ble_eq_true rfl) dX3_certify_13 rfl ⟨Nat.le_of_ble_eq_true rfl, Nat.le_of_ble_eq_true rfl⟩ (fun _ h => h) (fun _ _ _ _ h => h) (fun _ h => h) (fun _ _ _ _ h _ _ => h) (fun r9 _ hp10 => ?_)
    obtain rfl : r9 = 0 := by rw [hp10]; exact if_neg hK
    refine j_if_eq B 75 dX3_certify_16 (by decide) (fun h12 => ?_) (fun h12 => (absurd (by decide) h12))
    refine j_aload_n B dX3_certify_75 2 rfl rfl ?_
    refine j_iload_n B dX3_certify_76 3 rfl rfl ?_
    refine j_cSi B (S := Unit) 1 [.int k0] (WdC' := fun _ => pgM D cI cZ A σ ρ th md) (fun _ => pgM D cI cZ A σ ρ th md) (c_X3_isKeeper l D cD cC cI cZ cL A σ ρ th md k0) q_576 q_577 q_3 q_578 hdX3_isKeeper rfl ⟨Nat.le_of_ble_eq_true rfl, Nat.le_of_ble_eq_true rfl⟩ (Nat.le_of_ble_eq_true rfl) dX3_certify_77 rfl ⟨Nat.le_of_ble_eq_true rfl, Nat.le_of_ble_eq_true rfl⟩ (fun _ h => h) (fun _ _ _ _ h => h) (fun _ h => h) (fun _ _ _ _ h _ _ => h) (fun r13 _ hp14 => ?_)
    obtain rfl : r13 = 0 := by rw [hp14]; exact if_neg hK
    refine j_if_ne B 87 dX3_certify_80 (by decide) (fun h16 => (absurd (by decide) h16)) (fun h16 => ?_)
    refine j_iconst B (v := 1) dX3_certify_83 (by decide) ?_
    refine j_goto B 96 dX3_certify_84 (by decide) ?_
    refine j_cVi B (S := Unit) 1 [.int 1] (WdC' := fun _ => pgM D cI cZ A σ ρ 1 md) (fun _ => pgM D cI cZ A σ ρ 1 md) (c_X3_can l D cD cC cI cZ cL A σ ρ th md 1) rfl (fun H h => pgM.m h) q_579 q_581 q_p6 q_3 q_582 hdX3_can rfl ⟨Nat.le_of_ble_eq_true rfl, Nat.le_of_ble_eq_true rfl⟩ (Nat.le_of_ble_eq_true rfl) dX3_certify_96 rfl ⟨Nat.le_of_ble_eq_true rfl, Nat.le_of_ble_eq_true rfl⟩ (fun _ h => h) (fun _ _ _ _ h => h) (fun _ h => h) (fun _ _ _ _ h _ _ => h) (fun r17 _ hp18 => ?_)
    obtain rfl : r17 = 0 := by rw [hp18]; rfl
    refine j_if_ne B 104 dX3_certify_99 (by decide) (fun h19 => (absurd (by decide) h19)) (fun h19 => ?_)
    refine j_iconst B (v := 0) dX3_certify_102 (by decide) ?_
    have e1 : sp_certify σ k0 = (1, 0, σ) := by
      simp only [sp_certify]
      grind
    exact j_iret B hr rfl dX3_certify_103 (Nat.le_of_ble_eq_true rfl) (Nat.le_of_ble_eq_true rfl) () (by rw [e1]; exact fun h => absurd h (show ¬ (1 : Nat) = 0 by decide)) (fun H h => by rw [e1]; exact h)
theorem c_X3_certify (l : Launch) (D : va_G) (cD cC cI cZ cL : ClassId) (A : Nat → Prop) (σ : pgSt) (ρ : Nat → Int32) (th : Int32) (md : Nat → Nat) (n : Nat) (hI : pgI n σ) (k0 : Int32) : Met l yX3_certify (.code yX3_certify cX3_certify 4 (some .int) :: pgWd) ({ frames := 2, cells := 0, slots := 0, locals := 42 } : Room) (pgPc D (pgTys cD cC cI cZ cL) A (pgM D cI cZ A σ ρ th md) [.ref (md 0), .int k0]) (va_Qi (fun (r : Int32) (_ : Unit) => (sp_certify σ k0).1 = 0 → r = (sp_certify σ k0).2.1) (fun _ t9 => pgM D cI cZ A ((sp_certify σ k0).2.2) ρ (pgKB (sp_certify σ k0).1) md t9.heap) A) 0 0 A := by
  by_cases hK : pgIsK k0
  · exact c_X3_certify_a l D cD cC cI cZ cL A σ ρ th md n hI k0 hK
  · exact c_X3_certify_b l D cD cC cI cZ cL A σ ρ th md n hI k0 hK
