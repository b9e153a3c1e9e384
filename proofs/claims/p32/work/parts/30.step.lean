theorem pv_or : ∀ a, a < 3 → ∀ b, b < 4 → nI a ||| (nI b <<< ((2 : Int32) &&& 31)) = nI (a + 4 * b) := by decide +kernel
theorem pvI_fill {n Bd : Nat} {σ φ : pgSt} {m : Int64} (h : pvI n σ φ m Bd) : pvI n σ (pvFill σ φ n) m Bd := by
  obtain ⟨i1, i2, i3, i4, i5, i6, i7⟩ := h
  refine ⟨i1, ?_, fun j hj => pvD_congr (i3 j hj) (fun _ _ => rfl) (fun _ => rfl) (pvFill_o (by omega)) (pvFill_o (by omega)), fun j hj hj2 => by rw [pvFill_o (by omega)]; exact i4 j hj hj2, fun c hc => ?_, i6, i7⟩
  · unfold pvN
    rw [pvFill_o (by omega), pvFill_o (by omega), pvFill_o (by omega), pvFill_o (by omega), pvFill_o (by omega)]
    exact i2
  · have := i5 c hc
    unfold pvK at *
    rw [pvFill_o (by omega)]
    exact this
/-- step -/
abbrev rm_step : Room := { frames := 11, cells := 1061, slots := 6366, locals := 209 }
set_option maxHeartbeats 4000000 in
set_option maxRecDepth 100000 in
theorem c_L_step (l : Launch) (hl : l.stackTraces = false) (D : va_G) (cD cC cI cZ cL : ClassId) (A : Nat → Prop) (σ φ : pgSt) (n : Nat) (ad ca : Nat → Nat) (f : Nat → Int64) (Bd : Nat) (hB : Bd ≤ 1000) (h : pvI n σ φ (f 0) Bd) (w x y : Nat) (hx : x < 2 ^ 30) (hy : y < 2 ^ 30) : Met l yL_step (.code yL_step cL_step 12 (some .boolean) :: pgWd) rm_step (pgPc D (pgTys cD cC cI cZ cL) A (pvW D cD cC cI cL A σ n ad φ ca f) [.ref (ad 0), .int (nI w), .int (nI x), .int (nI y), .ref (ca 0), .ref (ca 1), .ref (ca 2), .ref (ca 3), .ref (ca 4), .ref (ca 5)]) (va_Qi (fun (r : Int32) (u : Nat × (Nat → Nat) × pgSt × pgSt × (Nat → Int64)) => r = 1 ∧ u.2.1 0 = ad 0 ∧ pvI u.1 u.2.2.1 u.2.2.2.1 (u.2.2.2.2 0) (Bd + 1)) (fun u t9 => (pvW D cD cC cI cL A u.2.2.1 u.1 u.2.1 u.2.2.2.1 ca u.2.2.2.2) t9.heap) A) rm_step.cells rm_step.slots A := by
  refine pv_enter (own := RL) (by decide) rfl (Nat.le_of_ble_eq_true rfl) (fun p e s m args below meth cc9 Q B hret => ?_)
  have hG := h.1
  have hn60 : n ≤ 60 := hG.1
  have hc0 : φ 0 0 = nI n := h.2.1.1
  have hm := h.2.2.2.2.2.2
  refine j_iload_n B dL_step_0 1 rfl rfl ?_
  refine j_iconst B (v := 4) dL_step_1 (by decide) ?_
  have kj1 : pgJ p l e rm_step s m args below meth cc9 12 A (pvW D cD cC cI cL A σ n ad φ ca f) (0) (0) Q 12 [(0, .ref (ad 0)), (1, .int (nI w)), (2, .int (nI x)), (3, .int (nI y)), (4, .ref (ca 0)), (5, .ref (ca 1)), (6, .ref (ca 2)), (7, .ref (ca 3)), (8, .ref (ca 4)), (9, .ref (ca 5))] [] := by
    refine j_aload B dL_step_12 4 rfl ?_
    refine j_iconst B (v := 0) dL_step_14 (by decide) ?_
    refine j_pld B (k := 0) (j := 0) (v := nI n) (by omega) rfl (show 0 < 5 by omega) hc0 dL_step_15 ?_
    refine j_bipush B (v := 60) dL_step_16 (by decide) ?_
    refine j_icmp_ne B 23 dL_step_18 (by decide) (fun h2 => ?_) (fun h2 => ?_)
    · have hn : n < 60 := by
        by_cases z : n = 60
        · exact absurd (by rw [z]; rfl) h2
        · omega
      refine j_aload B dL_step_23 6 rfl ?_
      refine j_aload B dL_step_25 4 rfl ?_
      refine j_iconst B (v := 0) dL_step_27 (by decide) ?_
      refine j_pld B (k := 0) (j := 0) (v := nI n) (by omega) rfl (show 0 < 5 by omega) hc0 dL_step_28 ?_
      refine j_iload_n B dL_step_29 2 rfl rfl ?_
      refine j_iconst B (v := 3) dL_step_30 (by decide) ?_
      refine j_remv B (nI (x % 3)) (pv_rem (b := 3) (by omega) (by omega) (by omega)) (by decide) dL_step_31 ?_
      refine j_iload_n B dL_step_32 2 rfl rfl ?_
      refine j_iconst B (v := 3) dL_step_33 (by decide) ?_
      refine j_divv B (nI (x / 3)) (pv_div (b := 3) (by omega) (by omega) (by omega)) (by decide) dL_step_34 ?_
      refine j_iconst B (v := 4) dL_step_35 (by decide) ?_
      refine j_remv B (nI ((x / 3) % 4)) (pv_rem (b := 4) (by omega) (by omega) (by omega)) (by decide) dL_step_36 ?_
      refine j_iconst B (v := 2) dL_step_37 (by decide) ?_
      refine j_shlv B (nI ((x / 3) % 4) <<< ((2 : Int32) &&& 31)) (rfl) dL_step_38 ?_
      refine j_orv B (nI (x % 3 + 4 * (x / 3 % 4))) (pv_or _ (by omega) _ (by omega)) dL_step_39 ?_
      refine j_pst B (k := 2) (j := n) (by omega) rfl (show n < 60 by omega) dL_step_40 ?_
      refine j_aload B dL_step_41 4 rfl ?_
      refine j_iconst B (v := 0) dL_step_43 (by decide) ?_
      refine j_dup2 B dL_step_44 rfl rfl ?_
      refine j_pld B (k := 0) (j := 0) (v := nI n) (by omega) rfl (show 0 < 5 by omega) (by simpa [pgU] using hc0) dL_step_45 ?_
      refine j_iconst B (v := 1) dL_step_46 (by decide) ?_
      refine j_addv B (nI (n + 1)) (nI_add _ _) dL_step_47 ?_
      refine j_pst B (k := 0) (j := 0) (by omega) rfl (show 0 < 5 by omega) dL_step_48 ?_
      refine j_aload B dL_step_49 4 rfl ?_
      refine j_iconst B (v := 1) dL_step_51 (by decide) ?_
      refine j_dup2 B dL_step_52 rfl rfl ?_
      refine j_pld B (k := 0) (j := 1) (v := φ 0 1) (by omega) rfl (show 1 < 5 by omega) (by simp [pgU]) dL_step_53 ?_
      refine j_iconst B (v := 1) dL_step_54 (by decide) ?_
      refine j_addv B ((φ 0 1) + 1) (rfl) dL_step_55 ?_
      refine j_pst B (k := 0) (j := 1) (by omega) rfl (show 1 < 5 by omega) dL_step_56 ?_
      refine j_aload_n B dL_step_57 0 rfl rfl ?_
      refine j_iload_n B dL_step_58 2 rfl rfl ?_
      refine j_iconst B (v := 3) dL_step_59 (by decide) ?_
      refine j_remv B (nI (x % 3)) (pv_rem (b := 3) (by omega) (by omega) (by omega)) (by decide) dL_step_60 ?_
      refine j_iload_n B dL_step_61 2 rfl rfl ?_
      refine j_iconst B (v := 3) dL_step_62 (by decide) ?_
      refine j_divv B (nI (x / 3)) (pv_div (b := 3) (by omega) (by omega) (by omega)) (by decide) dL_step_63 ?_
      refine j_iconst B (v := 4) dL_step_64 (by decide) ?_
      refine j_remv B (nI ((x / 3) % 4)) (pv_rem (b := 4) (by omega) (by omega) (by omega)) (by decide) dL_step_65 ?_
      refine j_iload_n B dL_step_66 3 rfl rfl ?_
      refine j_iconst B (v := 3) dL_step_67 (by decide) ?_
      refine j_remv B (nI (y % 3)) (pv_rem (b := 3) (by omega) (by omega) (by omega)) (by decide) dL_step_68 ?_
      obtain ⟨τ1, eS, b1, b2, b3, hI1⟩ := pv_bring (a := x % 3) (b := x / 3 % 4) (q := y % 3) h hn (by omega) (by omega) (by omega)
      rw [hc0, nI_1] at hI1
      have hM := c_X2_bring l hl D cD cC cI cZ cL (pvA A ca) σ n ad hG (nI (x % 3)) (nI (x / 3 % 4)) (nI (y % 3))
      rw [eS] at hM
      refine j_wVi B 3 [.int (nI (x % 3)), .int (nI ((x / 3) % 4)), .int (nI (y % 3))] (Wd' := fun u => pvW D cD cC cI cL A τ1 (n + 1) u (pgU (pgU (pgU φ 2 n (nI (x % 3 + 4 * (x / 3 % 4)))) 0 0 (nI (n + 1))) 0 1 ((φ 0 1) + 1)) ca f) (WdX' := pvW D cD cC cI cL A σ n ad (pgU (pgU (pgU φ 2 n (nI (x % 3 + 4 * (x / 3 % 4)))) 0 0 (nI (n + 1))) 0 1 ((φ 0 1) + 1)) ca f) hM rfl (fun H h => h.x) q_79 q_80 q_81 q_1 q_82 hdX2_bring rfl ⟨Nat.le_of_ble_eq_true rfl, Nat.le_of_ble_eq_true rfl⟩ (Nat.le_of_ble_eq_true rfl) dL_step_69 rfl ⟨Nat.le_of_ble_eq_true rfl, Nat.le_of_ble_eq_true rfl⟩ (fun _ h => h.1) (fun H h q hq hA => h.new q hq hA) (fun H h => h.1) (fun H H1 u h h1 hz hk => h.cls h1 hk) (fun H H1 h h1 hz hk => h.cls h1 hk) (fun k hk => absurd hk.1.symm hk.2) (fun r1 ad1 hr1 => ?_)
      obtain ⟨-, hr2, had⟩ := hr1
      rw [show r1 = nI n from hr2, ← had]
      clear hM
      refine j_aload B dL_step_72 4 rfl ?_
      refine j_iconst B (v := 0) dL_step_74 (by decide) ?_
      refine j_pld B (k := 0) (j := 0) (v := nI (n + 1)) (by omega) rfl (show 0 < 5 by omega) (by simp [pgU]) dL_step_75 ?_
      refine j_iconst B (v := 1) dL_step_76 (by decide) ?_
      refine j_subv B (nI n) (nI_pred _) dL_step_77 ?_
      refine j_icmp_ne B 128 dL_step_78 (by decide) (fun h3 => absurd rfl h3) (fun h3 => ?_)
      refine j_aload_n B dL_step_81 0 rfl rfl ?_
      refine j_aload B dL_step_82 4 rfl ?_
      refine j_iconst B (v := 0) dL_step_84 (by decide) ?_
      refine j_pld B (k := 0) (j := 0) (v := nI (n + 1)) (by omega) rfl (show 0 < 5 by omega) (by simp [pgU]) dL_step_85 ?_
      refine j_iconst B (v := 1) dL_step_86 (by decide) ?_
      refine j_subv B (nI n) (nI_pred _) dL_step_87 ?_
      refine j_ask B (τ1 2 n) 1 [.int (nI n)] (c_X2_keeperOf l hl D cD cC cI cZ cL (pvA A ca) τ1 (n + 1) ad1 hI1.1 (nI n)) (pv_askD hI1.1 (by omega) 2) q_241 q_242 q_243 q_1 q_244 hdX2_keeperOf rfl ⟨Nat.le_of_ble_eq_true rfl, Nat.le_of_ble_eq_true rfl⟩ (Nat.le_of_ble_eq_true rfl) dL_step_88 rfl (4) (29) ⟨Nat.le_of_ble_eq_true rfl, Nat.le_of_ble_eq_true rfl⟩ ⟨Nat.le_of_ble_eq_true rfl, Nat.le_of_ble_eq_true rfl⟩ ?_
      refine j_iload_n B dL_step_91 3 rfl rfl ?_
      refine j_iconst B (v := 3) dL_step_92 (by decide) ?_
      refine j_remv B (nI (y % 3)) (pv_rem (b := 3) (by omega) (by omega) (by omega)) (by decide) dL_step_93 ?_
      refine j_icmp_ne B 128 dL_step_94 (by decide) (fun h4 => (by clear B hret; grind : False).elim) (fun h4 => ?_)
      refine j_aload_n B dL_step_97 0 rfl rfl ?_
      refine j_aload B dL_step_98 4 rfl ?_
      refine j_iconst B (v := 0) dL_step_100 (by decide) ?_
      refine j_pld B (k := 0) (j := 0) (v := nI (n + 1)) (by omega) rfl (show 0 < 5 by omega) (by simp [pgU]) dL_step_101 ?_
      refine j_iconst B (v := 1) dL_step_102 (by decide) ?_
      refine j_subv B (nI n) (nI_pred _) dL_step_103 ?_
      refine j_ask B (τ1 4 n) 1 [.int (nI n)] (c_X2_stateOf l hl D cD cC cI cZ cL (pvA A ca) τ1 (n + 1) ad1 hI1.1 (nI n)) (pv_askD hI1.1 (by omega) 4) q_250 q_251 q_252 q_1 q_253 hdX2_stateOf rfl ⟨Nat.le_of_ble_eq_true rfl, Nat.le_of_ble_eq_true rfl⟩ (Nat.le_of_ble_eq_true rfl) dL_step_104 rfl (5) (35) ⟨Nat.le_of_ble_eq_true rfl, Nat.le_of_ble_eq_true rfl⟩ ⟨Nat.le_of_ble_eq_true rfl, Nat.le_of_ble_eq_true rfl⟩ ?_
      refine j_if_ne B 128 dL_step_107 (by decide) (fun h5 => (by clear B hret; grind : False).elim) (fun h5 => ?_)
      refine j_aload_n B dL_step_110 0 rfl rfl ?_
      refine j_aload B dL_step_111 4 rfl ?_
      refine j_iconst B (v := 0) dL_step_113 (by decide) ?_
      refine j_pld B (k := 0) (j := 0) (v := nI (n + 1)) (by omega) rfl (show 0 < 5 by omega) (by simp [pgU]) dL_step_114 ?_
      refine j_iconst B (v := 1) dL_step_115 (by decide) ?_
      refine j_subv B (nI n) (nI_pred _) dL_step_116 ?_
      refine j_ask B (τ1 3 n) 1 [.int (nI n)] (c_X2_crateOf l hl D cD cC cI cZ cL (pvA A ca) τ1 (n + 1) ad1 hI1.1 (nI n)) (pv_askD hI1.1 (by omega) 3) q_254 q_255 q_256 q_1 q_257 hdX2_crateOf rfl ⟨Nat.le_of_ble_eq_true rfl, Nat.le_of_ble_eq_true rfl⟩ (Nat.le_of_ble_eq_true rfl) dL_step_117 rfl (6) (41) ⟨Nat.le_of_ble_eq_true rfl, Nat.le_of_ble_eq_true rfl⟩ ⟨Nat.le_of_ble_eq_true rfl, Nat.le_of_ble_eq_true rfl⟩ ?_
      refine j_iconst B (v := (-1)) dL_step_120 (by decide) ?_
      refine j_icmp_ne B 128 dL_step_121 (by decide) (fun h6 => (by clear B hret; grind : False).elim) (fun h6 => ?_)
      refine j_iconst B (v := 1) dL_step_124 (by decide) ?_
      refine j_goto B 129 dL_step_125 (by decide) ?_
      exact hret 129 _ 1 ((n + 1), ad1, τ1, pgU (pgU (pgU φ 2 n (nI (x % 3 + 4 * (x / 3 % 4)))) 0 0 (nI (n + 1))) 0 1 ((φ 0 1) + 1), f) (6) (41) dL_step_129 rfl (Nat.le_of_ble_eq_true rfl) (Nat.le_of_ble_eq_true rfl) ⟨rfl, had, pvI_le hI1 (by omega)⟩
    · refine j_iconst B (v := 1) dL_step_21 (by decide) ?_
      exact hret 22 _ 1 (n, ad, σ, φ, f) (0) (0) dL_step_22 rfl (Nat.le_of_ble_eq_true rfl) (Nat.le_of_ble_eq_true rfl) ⟨rfl, rfl, pvI_le h (by omega)⟩
  refine j_icmp_lt B 12 dL_step_2 (by decide) (fun h7 => ?_) (fun h7 => ?_)
  · exact kj1
  · refine j_aload B dL_step_5 4 rfl ?_
    refine j_iconst B (v := 0) dL_step_7 (by decide) ?_
    refine j_pld B (k := 0) (j := 0) (v := nI n) (by omega) rfl (show 0 < 5 by omega) hc0 dL_step_8 ?_
    refine j_if_ne B 130 dL_step_9 (by decide) (fun h8 => ?_) (fun h8 => ?_)
    · have hn0 : 0 < n := by
        by_cases z : n = 0
        · exact absurd (by rw [z]; rfl) h8
        · omega
      refine j_aload_n B dL_step_130 0 rfl rfl ?_
      refine j_aload B dL_step_131 4 rfl ?_
      refine j_aload B dL_step_133 5 rfl ?_
      refine j_lawV B 3 [.ref (ad 0), .ref (ca 0), .ref (ca 1)] (c_L_all l hl D cD cC cI cZ cL A σ φ n ad ca f hG hc0) q_262 q_263 q_0 q_264 hdL_all rfl ⟨Nat.le_of_ble_eq_true rfl, Nat.le_of_ble_eq_true rfl⟩ (Nat.le_of_ble_eq_true rfl) dL_step_135 rfl (360) (2160) ⟨Nat.le_of_ble_eq_true rfl, Nat.le_of_ble_eq_true rfl⟩ ⟨Nat.le_of_ble_eq_true rfl, Nat.le_of_ble_eq_true rfl⟩ (fun _ _ => ?_)
      have h2 := pvI_fill h
      have hd2 : ∀ i, i < n → pvFill σ φ n 1 i = pvE σ i := fun i hi => pvFill_i hi
      generalize pvFill σ φ n = φ2 at h2 hd2 ⊢
      have hc2 : φ2 0 0 = nI n := h2.2.1.1
      refine j_iload_n B dL_step_138 2 rfl rfl ?_
      refine j_aload B dL_step_139 4 rfl ?_
      refine j_iconst B (v := 0) dL_step_141 (by decide) ?_
      refine j_pld B (k := 0) (j := 0) (v := nI n) (by omega) rfl (show 0 < 5 by omega) hc2 dL_step_142 ?_
      refine j_remv B (nI (x % n)) (pv_rem (by omega) hn0 (by omega)) (nI_ne0 hn0 (by omega)) dL_step_143 ?_
      obtain ⟨j, hj, ej⟩ : ∃ j, j < n ∧ x % n = j := ⟨_, Nat.mod_lt _ hn0, rfl⟩
      rw [ej]
      refine j_istore B (L' := [(10, .int (nI j)), (0, .ref (ad 0)), (1, .int (nI w)), (2, .int (nI x)), (3, .int (nI y)), (4, .ref (ca 0)), (5, .ref (ca 1)), (6, .ref (ca 2)), (7, .ref (ca 3)), (8, .ref (ca 4)), (9, .ref (ca 5))]) dL_step_144 (by decide) rfl ?_
      refine j_iload_n B dL_step_146 2 rfl rfl ?_
      refine j_bipush B (v := 7) dL_step_147 (by decide) ?_
      refine j_icmp_ge B 191 dL_step_149 (by decide) (fun h9 => ?_) (fun h9 => ?_)
      · refine j_iload_n B dL_step_191 2 rfl rfl ?_
        refine j_bipush B (v := 11) dL_step_192 (by decide) ?_
        refine j_icmp_ge B 224 dL_step_194 (by decide) (fun h10 => ?_) (fun h10 => ?_)
        · refine j_iload_n B dL_step_224 2 rfl rfl ?_
          refine j_bipush B (v := 17) dL_step_225 (by decide) ?_
          refine j_icmp_ge B 313 dL_step_227 (by decide) (fun h11 => ?_) (fun h11 => ?_)
          · refine j_iload_n B dL_step_313 2 rfl rfl ?_
            refine j_bipush B (v := 19) dL_step_314 (by decide) ?_
            refine j_icmp_ge B 366 dL_step_316 (by decide) (fun h12 => ?_) (fun h12 => ?_)
            · refine j_iload_n B dL_step_366 2 rfl rfl ?_
              refine j_bipush B (v := 23) dL_step_367 (by decide) ?_
              refine j_icmp_ge B 440 dL_step_369 (by decide) (fun h13 => ?_) (fun h13 => ?_)
              · refine j_aload_n B dL_step_440 1 rfl rfl ?_
                refine j_iload_n B dL_step_441 4 rfl rfl ?_
                refine j_bipush B (v := 8) dL_step_442 (by decide) ?_
                refine j_remv B (nI (y % 8)) (pv_rem (b := 8) (by omega) (by omega) (by omega)) (by decide) dL_step_444 ?_
                refine j_aload B dL_step_445 5 rfl ?_
                refine j_aload B dL_step_447 6 rfl ?_
                refine j_aload B dL_step_449 10 rfl ?_
                refine j_lawI B 5 [.ref (ad 0), .int (nI (y % 8)), .ref (ca 0), .ref (ca 1), .ref (ca 5)] (c_L_certifies l hl D cD cC cI cZ cL A σ φ2 n ad ca f Bd h2 hd2 hB (y % 8) (by omega)) q_451 q_452 q_0 q_453 hdL_certifies rfl ⟨Nat.le_of_ble_eq_true rfl, Nat.le_of_ble_eq_true rfl⟩ (Nat.le_of_ble_eq_true rfl) dL_step_451 rfl (1060) (6360) ⟨Nat.le_of_ble_eq_true rfl, Nat.le_of_ble_eq_true rfl⟩ ⟨Nat.le_of_ble_eq_true rfl, Nat.le_of_ble_eq_true rfl⟩ (fun r1 u1 hr1 => ?_)
                obtain ⟨hr2, hI1⟩ := hr1
                rw [hr2]
                exact hret 454 _ 1 (n, ad, u1.1, u1.2.1, u1.2.2) (1060) (6360) dL_step_454 rfl (Nat.le_of_ble_eq_true rfl) (Nat.le_of_ble_eq_true rfl) ⟨rfl, rfl, hI1⟩
              · refine j_iload_n B dL_step_372 3 rfl rfl ?_
                refine j_bipush B (v := 60) dL_step_373 (by decide) ?_
                refine j_divv B (nI (x / 60)) (pv_div (b := 60) (by omega) (by omega) (by omega)) (by decide) dL_step_375 ?_
                refine j_iconst B (v := 4) dL_step_376 (by decide) ?_
                refine j_remv B (nI ((x / 60) % 4)) (pv_rem (b := 4) (by omega) (by omega) (by omega)) (by decide) dL_step_377 ?_
                refine j_istore B (L' := [(11, .int (nI ((x / 60) % 4))), (10, .int (nI j)), (0, .ref (ad 0)), (1, .int (nI w)), (2, .int (nI x)), (3, .int (nI y)), (4, .ref (ca 0)), (5, .ref (ca 1)), (6, .ref (ca 2)), (7, .ref (ca 3)), (8, .ref (ca 4)), (9, .ref (ca 5))]) dL_step_378 (by decide) rfl ?_
                refine j_aload_n B dL_step_380 2 rfl rfl ?_
                refine j_iload_n B dL_step_381 3 rfl rfl ?_
                refine j_bipush B (v := 19) dL_step_382 (by decide) ?_
                refine j_icmp_ne B 392 dL_step_384 (by decide) (fun h14 => ?_) (fun h14 => ?_)
                · refine j_iload_n B dL_step_392 3 rfl rfl ?_
                  refine j_bipush B (v := 20) dL_step_393 (by decide) ?_
                  refine j_icmp_ne B 403 dL_step_395 (by decide) (fun h15 => ?_) (fun h15 => ?_)
                  · refine j_aload_n B dL_step_403 2 rfl rfl ?_
                    refine j_iload B dL_step_404 0 rfl ?_
                    refine j_ask B (σ 11 ((x / 60) % 4)) 1 [.int (nI ((x / 60) % 4))] (c_X2_sealOf l hl D cD cC cI cZ cL (pvA A ca) σ n ad hG (nI ((x / 60) % 4))) (pv_askC (by omega) 11) q_296 q_297 q_298 q_1 q_299 hdX2_sealOf rfl ⟨Nat.le_of_ble_eq_true rfl, Nat.le_of_ble_eq_true rfl⟩ (Nat.le_of_ble_eq_true rfl) dL_step_406 rfl (361) (2166) ⟨Nat.le_of_ble_eq_true rfl, Nat.le_of_ble_eq_true rfl⟩ ⟨Nat.le_of_ble_eq_true rfl, Nat.le_of_ble_eq_true rfl⟩ ?_
                    refine j_if_ge B 423 dL_step_409 (by decide) (fun h16 => ?_) (fun h16 => ?_)
                    · refine j_bipush B (v := 11) dL_step_423 (by decide) ?_
                      refine j_iload B dL_step_425 0 rfl ?_
                      refine j_iload_n B dL_step_427 5 rfl rfl ?_
                      refine j_iconst B (v := 3) dL_step_428 (by decide) ?_
                      refine j_divv B (nI (y / 3)) (pv_div (b := 3) (by omega) (by omega) (by omega)) (by decide) dL_step_429 ?_
                      refine j_aload B dL_step_430 6 rfl ?_
                      refine j_aload B dL_step_432 7 rfl ?_
                      refine j_aload B dL_step_434 9 rfl ?_
                      refine j_lawI B 7 [.ref (ad 0), .int 11, .int (nI ((x / 60) % 4)), .int (nI (y / 3)), .ref (ca 0), .ref (ca 1), .ref (ca 3)] (c_L_crates_11 l hl D cD cC cI cZ cL A σ φ2 n ad ca f Bd h2 hd2 ((x / 60) % 4) (by omega) (y / 3) (by omega)) q_448 q_449 q_0 q_450 hdL_crates rfl ⟨Nat.le_of_ble_eq_true rfl, Nat.le_of_ble_eq_true rfl⟩ (Nat.le_of_ble_eq_true rfl) dL_step_436 rfl (1061) (6366) ⟨Nat.le_of_ble_eq_true rfl, Nat.le_of_ble_eq_true rfl⟩ ⟨Nat.le_of_ble_eq_true rfl, Nat.le_of_ble_eq_true rfl⟩ (fun r1 u1 hr1 => ?_)
                      obtain ⟨hr2, hI1⟩ := hr1
                      rw [hr2]
                      exact hret 439 _ 1 (n, ad, u1.1, u1.2.1, u1.2.2) (1061) (6366) dL_step_439 rfl (Nat.le_of_ble_eq_true rfl) (Nat.le_of_ble_eq_true rfl) ⟨rfl, rfl, hI1⟩
                    · refine j_iload_n B dL_step_412 5 rfl rfl ?_
                      refine j_iconst B (v := 3) dL_step_413 (by decide) ?_
                      refine j_remv B (nI (y % 3)) (pv_rem (b := 3) (by omega) (by omega) (by omega)) (by decide) dL_step_414 ?_
                      refine j_if_le B 423 dL_step_415 (by decide) (fun h17 => ?_) (fun h17 => ?_)
                      · refine j_bipush B (v := 11) dL_step_423 (by decide) ?_
                        refine j_iload B dL_step_425 0 rfl ?_
                        refine j_iload_n B dL_step_427 5 rfl rfl ?_
                        refine j_iconst B (v := 3) dL_step_428 (by decide) ?_
                        refine j_divv B (nI (y / 3)) (pv_div (b := 3) (by omega) (by omega) (by omega)) (by decide) dL_step_429 ?_
                        refine j_aload B dL_step_430 6 rfl ?_
                        refine j_aload B dL_step_432 7 rfl ?_
                        refine j_aload B dL_step_434 9 rfl ?_
                        refine j_lawI B 7 [.ref (ad 0), .int 11, .int (nI ((x / 60) % 4)), .int (nI (y / 3)), .ref (ca 0), .ref (ca 1), .ref (ca 3)] (c_L_crates_11 l hl D cD cC cI cZ cL A σ φ2 n ad ca f Bd h2 hd2 ((x / 60) % 4) (by omega) (y / 3) (by omega)) q_448 q_449 q_0 q_450 hdL_crates rfl ⟨Nat.le_of_ble_eq_true rfl, Nat.le_of_ble_eq_true rfl⟩ (Nat.le_of_ble_eq_true rfl) dL_step_436 rfl (1061) (6366) ⟨Nat.le_of_ble_eq_true rfl, Nat.le_of_ble_eq_true rfl⟩ ⟨Nat.le_of_ble_eq_true rfl, Nat.le_of_ble_eq_true rfl⟩ (fun r1 u1 hr1 => ?_)
                        obtain ⟨hr2, hI1⟩ := hr1
                        rw [hr2]
                        exact hret 439 _ 1 (n, ad, u1.1, u1.2.1, u1.2.2) (1061) (6366) dL_step_439 rfl (Nat.le_of_ble_eq_true rfl) (Nat.le_of_ble_eq_true rfl) ⟨rfl, rfl, hI1⟩
                      · refine j_bipush B (v := 9) dL_step_418 (by decide) ?_
                        refine j_goto B 425 dL_step_420 (by decide) ?_
                        refine j_iload B dL_step_425 0 rfl ?_
                        refine j_iload_n B dL_step_427 5 rfl rfl ?_
                        refine j_iconst B (v := 3) dL_step_428 (by decide) ?_
                        refine j_divv B (nI (y / 3)) (pv_div (b := 3) (by omega) (by omega) (by omega)) (by decide) dL_step_429 ?_
                        refine j_aload B dL_step_430 6 rfl ?_
                        refine j_aload B dL_step_432 7 rfl ?_
                        refine j_aload B dL_step_434 9 rfl ?_
                        refine j_lawI B 7 [.ref (ad 0), .int 9, .int (nI ((x / 60) % 4)), .int (nI (y / 3)), .ref (ca 0), .ref (ca 1), .ref (ca 3)] (c_L_crates_9 l hl D cD cC cI cZ cL A σ φ2 n ad ca f Bd h2 hd2 ((x / 60) % 4) (by omega) (nI (y / 3))) q_448 q_449 q_0 q_450 hdL_crates rfl ⟨Nat.le_of_ble_eq_true rfl, Nat.le_of_ble_eq_true rfl⟩ (Nat.le_of_ble_eq_true rfl) dL_step_436 rfl (786) (4716) ⟨Nat.le_of_ble_eq_true rfl, Nat.le_of_ble_eq_true rfl⟩ ⟨Nat.le_of_ble_eq_true rfl, Nat.le_of_ble_eq_true rfl⟩ (fun r1 u1 hr1 => ?_)
                        obtain ⟨hr2, hI1⟩ := hr1
                        rw [hr2]
                        exact hret 439 _ 1 (n, ad, u1.1, u1.2.1, u1.2.2) (786) (4716) dL_step_439 rfl (Nat.le_of_ble_eq_true rfl) (Nat.le_of_ble_eq_true rfl) ⟨rfl, rfl, hI1⟩
                  · refine j_bipush B (v := 10) dL_step_398 (by decide) ?_
                    refine j_goto B 425 dL_step_400 (by decide) ?_
                    refine j_iload B dL_step_425 0 rfl ?_
                    refine j_iload_n B dL_step_427 5 rfl rfl ?_
                    refine j_iconst B (v := 3) dL_step_428 (by decide) ?_
                    refine j_divv B (nI (y / 3)) (pv_div (b := 3) (by omega) (by omega) (by omega)) (by decide) dL_step_429 ?_
                    refine j_aload B dL_step_430 6 rfl ?_
                    refine j_aload B dL_step_432 7 rfl ?_
                    refine j_aload B dL_step_434 9 rfl ?_
                    refine j_lawI B 7 [.ref (ad 0), .int 10, .int (nI ((x / 60) % 4)), .int (nI (y / 3)), .ref (ca 0), .ref (ca 1), .ref (ca 3)] (c_L_crates_10 l hl D cD cC cI cZ cL A σ φ2 n ad ca f Bd h2 hd2 ((x / 60) % 4) (by omega) (y / 3) (by omega)) q_448 q_449 q_0 q_450 hdL_crates rfl ⟨Nat.le_of_ble_eq_true rfl, Nat.le_of_ble_eq_true rfl⟩ (Nat.le_of_ble_eq_true rfl) dL_step_436 rfl (785) (4710) ⟨Nat.le_of_ble_eq_true rfl, Nat.le_of_ble_eq_true rfl⟩ ⟨Nat.le_of_ble_eq_true rfl, Nat.le_of_ble_eq_true rfl⟩ (fun r1 u1 hr1 => ?_)
                    obtain ⟨hr2, hI1⟩ := hr1
                    rw [hr2]
                    exact hret 439 _ 1 (n, ad, u1.1, u1.2.1, u1.2.2) (785) (4710) dL_step_439 rfl (Nat.le_of_ble_eq_true rfl) (Nat.le_of_ble_eq_true rfl) ⟨rfl, rfl, hI1⟩
                · refine j_bipush B (v := 9) dL_step_387 (by decide) ?_
                  refine j_goto B 425 dL_step_389 (by decide) ?_
                  refine j_iload B dL_step_425 0 rfl ?_
                  refine j_iload_n B dL_step_427 5 rfl rfl ?_
                  refine j_iconst B (v := 3) dL_step_428 (by decide) ?_
                  refine j_divv B (nI (y / 3)) (pv_div (b := 3) (by omega) (by omega) (by omega)) (by decide) dL_step_429 ?_
                  refine j_aload B dL_step_430 6 rfl ?_
                  refine j_aload B dL_step_432 7 rfl ?_
                  refine j_aload B dL_step_434 9 rfl ?_
                  refine j_lawI B 7 [.ref (ad 0), .int 9, .int (nI ((x / 60) % 4)), .int (nI (y / 3)), .ref (ca 0), .ref (ca 1), .ref (ca 3)] (c_L_crates_9 l hl D cD cC cI cZ cL A σ φ2 n ad ca f Bd h2 hd2 ((x / 60) % 4) (by omega) (nI (y / 3))) q_448 q_449 q_0 q_450 hdL_crates rfl ⟨Nat.le_of_ble_eq_true rfl, Nat.le_of_ble_eq_true rfl⟩ (Nat.le_of_ble_eq_true rfl) dL_step_436 rfl (785) (4710) ⟨Nat.le_of_ble_eq_true rfl, Nat.le_of_ble_eq_true rfl⟩ ⟨Nat.le_of_ble_eq_true rfl, Nat.le_of_ble_eq_true rfl⟩ (fun r1 u1 hr1 => ?_)
                  obtain ⟨hr2, hI1⟩ := hr1
                  rw [hr2]
                  exact hret 439 _ 1 (n, ad, u1.1, u1.2.1, u1.2.2) (785) (4710) dL_step_439 rfl (Nat.le_of_ble_eq_true rfl) (Nat.le_of_ble_eq_true rfl) ⟨rfl, rfl, hI1⟩
            · refine j_aload_n B dL_step_319 1 rfl rfl ?_
              refine j_aload B dL_step_320 10 rfl ?_
              refine j_iload B dL_step_322 0 rfl ?_
              refine j_lawI B 2 [.ref (ca 5), .int (nI j)] (c_L_isMissing l hl D cD cC cI cZ cL A σ φ2 n ad ca f j (by omega)) q_290 q_291 q_0 q_292 hdL_isMissing rfl ⟨Nat.le_of_ble_eq_true rfl, Nat.le_of_ble_eq_true rfl⟩ (Nat.le_of_ble_eq_true rfl) dL_step_324 rfl (360) (2160) ⟨Nat.le_of_ble_eq_true rfl, Nat.le_of_ble_eq_true rfl⟩ ⟨Nat.le_of_ble_eq_true rfl, Nat.le_of_ble_eq_true rfl⟩ (fun r18 _ h19 => ?_)
              rcases h19 with ⟨rfl, h20⟩ | ⟨rfl, h20⟩
              · refine j_if_eq B 341 dL_step_327 (by decide) (fun h21 => absurd h21 (by decide)) (fun h21 => ?_)
                refine j_iload_n B dL_step_330 4 rfl rfl ?_
                refine j_iconst B (v := 3) dL_step_331 (by decide) ?_
                refine j_remv B (nI (y % 3)) (pv_rem (b := 3) (by omega) (by omega) (by omega)) (by decide) dL_step_332 ?_
                refine j_if_le B 341 dL_step_333 (by decide) (fun h22 => ?_) (fun h22 => ?_)
                · refine j_iload_n B dL_step_341 4 rfl rfl ?_
                  refine j_iconst B (v := 2) dL_step_342 (by decide) ?_
                  refine j_remv B (nI (y % 2)) (pv_rem (b := 2) (by omega) (by omega) (by omega)) (by decide) dL_step_343 ?_
                  refine j_if_ne B 352 dL_step_344 (by decide) (fun h23 => ?_) (fun h23 => ?_)
                  · refine j_bipush B (v := 8) dL_step_352 (by decide) ?_
                    refine j_iload B dL_step_354 0 rfl ?_
                    refine j_aload B dL_step_356 5 rfl ?_
                    refine j_aload B dL_step_358 6 rfl ?_
                    refine j_aload B dL_step_360 10 rfl ?_
                    refine j_lawI B 6 [.ref (ad 0), .int 8, .int (nI j), .ref (ca 0), .ref (ca 1), .ref (ca 5)] (c_L_loses_8 l hl D cD cC cI cZ cL A σ φ2 n ad ca f Bd h2 hd2 j hj) q_445 q_446 q_0 q_447 hdL_loses rfl ⟨Nat.le_of_ble_eq_true rfl, Nat.le_of_ble_eq_true rfl⟩ (Nat.le_of_ble_eq_true rfl) dL_step_362 rfl (725) (4350) ⟨Nat.le_of_ble_eq_true rfl, Nat.le_of_ble_eq_true rfl⟩ ⟨Nat.le_of_ble_eq_true rfl, Nat.le_of_ble_eq_true rfl⟩ (fun r1 u1 hr1 => ?_)
                    obtain ⟨hr2, hI1⟩ := hr1
                    rw [hr2]
                    exact hret 365 _ 1 (n, ad, u1.1, u1.2.1, u1.2.2) (725) (4350) dL_step_365 rfl (Nat.le_of_ble_eq_true rfl) (Nat.le_of_ble_eq_true rfl) ⟨rfl, rfl, hI1⟩
                  · refine j_bipush B (v := 7) dL_step_347 (by decide) ?_
                    refine j_goto B 354 dL_step_349 (by decide) ?_
                    refine j_iload B dL_step_354 0 rfl ?_
                    refine j_aload B dL_step_356 5 rfl ?_
                    refine j_aload B dL_step_358 6 rfl ?_
                    refine j_aload B dL_step_360 10 rfl ?_
                    refine j_lawI B 6 [.ref (ad 0), .int 7, .int (nI j), .ref (ca 0), .ref (ca 1), .ref (ca 5)] (c_L_loses_7 l hl D cD cC cI cZ cL A σ φ2 n ad ca f Bd h2 hd2 j hj) q_445 q_446 q_0 q_447 hdL_loses rfl ⟨Nat.le_of_ble_eq_true rfl, Nat.le_of_ble_eq_true rfl⟩ (Nat.le_of_ble_eq_true rfl) dL_step_362 rfl (726) (4356) ⟨Nat.le_of_ble_eq_true rfl, Nat.le_of_ble_eq_true rfl⟩ ⟨Nat.le_of_ble_eq_true rfl, Nat.le_of_ble_eq_true rfl⟩ (fun r1 u1 hr1 => ?_)
                    obtain ⟨hr2, hI1⟩ := hr1
                    rw [hr2]
                    exact hret 365 _ 1 (n, ad, u1.1, u1.2.1, u1.2.2) (726) (4356) dL_step_365 rfl (Nat.le_of_ble_eq_true rfl) (Nat.le_of_ble_eq_true rfl) ⟨rfl, rfl, hI1⟩
                · refine j_bipush B (v := 8) dL_step_336 (by decide) ?_
                  refine j_goto B 354 dL_step_338 (by decide) ?_
                  refine j_iload B dL_step_354 0 rfl ?_
                  refine j_aload B dL_step_356 5 rfl ?_
                  refine j_aload B dL_step_358 6 rfl ?_
                  refine j_aload B dL_step_360 10 rfl ?_
                  refine j_lawI B 6 [.ref (ad 0), .int 8, .int (nI j), .ref (ca 0), .ref (ca 1), .ref (ca 5)] (c_L_loses_8 l hl D cD cC cI cZ cL A σ φ2 n ad ca f Bd h2 hd2 j hj) q_445 q_446 q_0 q_447 hdL_loses rfl ⟨Nat.le_of_ble_eq_true rfl, Nat.le_of_ble_eq_true rfl⟩ (Nat.le_of_ble_eq_true rfl) dL_step_362 rfl (725) (4350) ⟨Nat.le_of_ble_eq_true rfl, Nat.le_of_ble_eq_true rfl⟩ ⟨Nat.le_of_ble_eq_true rfl, Nat.le_of_ble_eq_true rfl⟩ (fun r1 u1 hr1 => ?_)
                  obtain ⟨hr2, hI1⟩ := hr1
                  rw [hr2]
                  exact hret 365 _ 1 (n, ad, u1.1, u1.2.1, u1.2.2) (725) (4350) dL_step_365 rfl (Nat.le_of_ble_eq_true rfl) (Nat.le_of_ble_eq_true rfl) ⟨rfl, rfl, hI1⟩
              · refine j_if_eq B 341 dL_step_327 (by decide) (fun h24 => ?_) (fun h24 => absurd h24 (by decide))
                refine j_iload_n B dL_step_341 4 rfl rfl ?_
                refine j_iconst B (v := 2) dL_step_342 (by decide) ?_
                refine j_remv B (nI (y % 2)) (pv_rem (b := 2) (by omega) (by omega) (by omega)) (by decide) dL_step_343 ?_
                refine j_if_ne B 352 dL_step_344 (by decide) (fun h25 => ?_) (fun h25 => ?_)
                · refine j_bipush B (v := 8) dL_step_352 (by decide) ?_
                  refine j_iload B dL_step_354 0 rfl ?_
                  refine j_aload B dL_step_356 5 rfl ?_
                  refine j_aload B dL_step_358 6 rfl ?_
                  refine j_aload B dL_step_360 10 rfl ?_
                  refine j_lawI B 6 [.ref (ad 0), .int 8, .int (nI j), .ref (ca 0), .ref (ca 1), .ref (ca 5)] (c_L_loses_8 l hl D cD cC cI cZ cL A σ φ2 n ad ca f Bd h2 hd2 j hj) q_445 q_446 q_0 q_447 hdL_loses rfl ⟨Nat.le_of_ble_eq_true rfl, Nat.le_of_ble_eq_true rfl⟩ (Nat.le_of_ble_eq_true rfl) dL_step_362 rfl (725) (4350) ⟨Nat.le_of_ble_eq_true rfl, Nat.le_of_ble_eq_true rfl⟩ ⟨Nat.le_of_ble_eq_true rfl, Nat.le_of_ble_eq_true rfl⟩ (fun r1 u1 hr1 => ?_)
                  obtain ⟨hr2, hI1⟩ := hr1
                  rw [hr2]
                  exact hret 365 _ 1 (n, ad, u1.1, u1.2.1, u1.2.2) (725) (4350) dL_step_365 rfl (Nat.le_of_ble_eq_true rfl) (Nat.le_of_ble_eq_true rfl) ⟨rfl, rfl, hI1⟩
                · refine j_bipush B (v := 7) dL_step_347 (by decide) ?_
                  refine j_goto B 354 dL_step_349 (by decide) ?_
                  refine j_iload B dL_step_354 0 rfl ?_
                  refine j_aload B dL_step_356 5 rfl ?_
                  refine j_aload B dL_step_358 6 rfl ?_
                  refine j_aload B dL_step_360 10 rfl ?_
                  refine j_lawI B 6 [.ref (ad 0), .int 7, .int (nI j), .ref (ca 0), .ref (ca 1), .ref (ca 5)] (c_L_loses_7 l hl D cD cC cI cZ cL A σ φ2 n ad ca f Bd h2 hd2 j hj) q_445 q_446 q_0 q_447 hdL_loses rfl ⟨Nat.le_of_ble_eq_true rfl, Nat.le_of_ble_eq_true rfl⟩ (Nat.le_of_ble_eq_true rfl) dL_step_362 rfl (726) (4356) ⟨Nat.le_of_ble_eq_true rfl, Nat.le_of_ble_eq_true rfl⟩ ⟨Nat.le_of_ble_eq_true rfl, Nat.le_of_ble_eq_true rfl⟩ (fun r1 u1 hr1 => ?_)
                  obtain ⟨hr2, hI1⟩ := hr1
                  rw [hr2]
                  exact hret 365 _ 1 (n, ad, u1.1, u1.2.1, u1.2.2) (726) (4356) dL_step_365 rfl (Nat.le_of_ble_eq_true rfl) (Nat.le_of_ble_eq_true rfl) ⟨rfl, rfl, hI1⟩
          · obtain ⟨a0, b0, ha0, hb0, -, -, e20⟩ := (h2.2.2.1 j hj).2.2.2.2.1
            refine j_iload_n B dL_step_230 4 rfl rfl ?_
            refine j_iconst B (v := 3) dL_step_231 (by decide) ?_
            refine j_remv B (nI (y % 3)) (pv_rem (b := 3) (by omega) (by omega) (by omega)) (by decide) dL_step_232 ?_
            refine j_if_le B 246 dL_step_233 (by decide) (fun h26 => ?_) (fun h26 => ?_)
            · refine j_iload_n B dL_step_246 4 rfl rfl ?_
              refine j_iconst B (v := 3) dL_step_247 (by decide) ?_
              refine j_divv B (nI (y / 3)) (pv_div (b := 3) (by omega) (by omega) (by omega)) (by decide) dL_step_248 ?_
              refine j_iconst B (v := 3) dL_step_249 (by decide) ?_
              refine j_remv B (nI ((y / 3) % 3)) (pv_rem (b := 3) (by omega) (by omega) (by omega)) (by decide) dL_step_250 ?_
              refine j_istore B (L' := [(11, .int (nI ((y / 3) % 3))), (10, .int (nI j)), (0, .ref (ad 0)), (1, .int (nI w)), (2, .int (nI x)), (3, .int (nI y)), (4, .ref (ca 0)), (5, .ref (ca 1)), (6, .ref (ca 2)), (7, .ref (ca 3)), (8, .ref (ca 4)), (9, .ref (ca 5))]) dL_step_251 (by decide) rfl ?_
              refine j_aload_n B dL_step_253 2 rfl rfl ?_
              refine j_iload_n B dL_step_254 3 rfl rfl ?_
              refine j_bipush B (v := 14) dL_step_255 (by decide) ?_
              refine j_icmp_ge B 264 dL_step_257 (by decide) (fun h27 => ?_) (fun h27 => ?_)
              · refine j_iload_n B dL_step_264 3 rfl rfl ?_
                refine j_bipush B (v := 14) dL_step_265 (by decide) ?_
                refine j_icmp_ne B 274 dL_step_267 (by decide) (fun h28 => ?_) (fun h28 => ?_)
                · refine j_bipush B (v := 6) dL_step_274 (by decide) ?_
                  refine j_iload B dL_step_276 1 rfl ?_
                  refine j_iload_n B dL_step_278 3 rfl rfl ?_
                  refine j_bipush B (v := 14) dL_step_279 (by decide) ?_
                  refine j_icmp_ge B 289 dL_step_281 (by decide) (fun h29 => ?_) (fun h29 => ?_)
                  · refine j_iload_n B dL_step_289 5 rfl rfl ?_
                    refine j_iconst B (v := 3) dL_step_290 (by decide) ?_
                    refine j_divv B (nI (y / 3)) (pv_div (b := 3) (by omega) (by omega) (by omega)) (by decide) dL_step_291 ?_
                    refine j_iload_n B dL_step_292 5 rfl rfl ?_
                    refine j_bipush B (v := 9) dL_step_293 (by decide) ?_
                    refine j_divv B (nI (y / 9)) (pv_div (b := 9) (by omega) (by omega) (by omega)) (by decide) dL_step_295 ?_
                    refine j_bipush B (v := 8) dL_step_296 (by decide) ?_
                    refine j_remv B (nI ((y / 9) % 8)) (pv_rem (b := 8) (by omega) (by omega) (by omega)) (by decide) dL_step_298 ?_
                    refine j_aload B dL_step_299 6 rfl ?_
                    refine j_aload B dL_step_301 7 rfl ?_
                    refine j_aload B dL_step_303 8 rfl ?_
                    refine j_aload B dL_step_305 11 rfl ?_
                    refine j_aload B dL_step_307 10 rfl ?_
                    refine j_lawI B 10 [.ref (ad 0), .int 6, .int (nI j), .int (nI (y / 3)), .int (nI ((y / 9) % 8)), .ref (ca 0), .ref (ca 1), .ref (ca 2), .ref (ca 5), .ref (ca 4)] (c_L_works_6 l hl D cD cC cI cZ cL A σ φ2 n ad ca f Bd h2 hd2 j hj (y / 3) (by omega) ((y / 9) % 8) (by omega)) q_442 q_443 q_0 q_444 hdL_works rfl ⟨Nat.le_of_ble_eq_true rfl, Nat.le_of_ble_eq_true rfl⟩ (Nat.le_of_ble_eq_true rfl) dL_step_309 rfl (733) (4398) ⟨Nat.le_of_ble_eq_true rfl, Nat.le_of_ble_eq_true rfl⟩ ⟨Nat.le_of_ble_eq_true rfl, Nat.le_of_ble_eq_true rfl⟩ (fun r1 u1 hr1 => ?_)
                    obtain ⟨hr2, hI1⟩ := hr1
                    rw [hr2]
                    exact hret 312 _ 1 (n, ad, u1.1, u1.2.1, u1.2.2) (733) (4398) dL_step_312 rfl (Nat.le_of_ble_eq_true rfl) (Nat.le_of_ble_eq_true rfl) ⟨rfl, rfl, hI1⟩
                  · refine j_iload B dL_step_284 0 rfl ?_
                    refine j_goto B 292 dL_step_286 (by decide) ?_
                    refine j_iload_n B dL_step_292 5 rfl rfl ?_
                    refine j_bipush B (v := 9) dL_step_293 (by decide) ?_
                    refine j_divv B (nI (y / 9)) (pv_div (b := 9) (by omega) (by omega) (by omega)) (by decide) dL_step_295 ?_
                    refine j_bipush B (v := 8) dL_step_296 (by decide) ?_
                    refine j_remv B (nI ((y / 9) % 8)) (pv_rem (b := 8) (by omega) (by omega) (by omega)) (by decide) dL_step_298 ?_
                    refine j_aload B dL_step_299 6 rfl ?_
                    refine j_aload B dL_step_301 7 rfl ?_
                    refine j_aload B dL_step_303 8 rfl ?_
                    refine j_aload B dL_step_305 11 rfl ?_
                    refine j_aload B dL_step_307 10 rfl ?_
                    refine j_lawI B 10 [.ref (ad 0), .int 6, .int (nI j), .int (nI ((y / 3) % 3)), .int (nI ((y / 9) % 8)), .ref (ca 0), .ref (ca 1), .ref (ca 2), .ref (ca 5), .ref (ca 4)] (c_L_works_6 l hl D cD cC cI cZ cL A σ φ2 n ad ca f Bd h2 hd2 j hj ((y / 3) % 3) (by omega) ((y / 9) % 8) (by omega)) q_442 q_443 q_0 q_444 hdL_works rfl ⟨Nat.le_of_ble_eq_true rfl, Nat.le_of_ble_eq_true rfl⟩ (Nat.le_of_ble_eq_true rfl) dL_step_309 rfl (733) (4398) ⟨Nat.le_of_ble_eq_true rfl, Nat.le_of_ble_eq_true rfl⟩ ⟨Nat.le_of_ble_eq_true rfl, Nat.le_of_ble_eq_true rfl⟩ (fun r1 u1 hr1 => ?_)
                    obtain ⟨hr2, hI1⟩ := hr1
                    rw [hr2]
                    exact hret 312 _ 1 (n, ad, u1.1, u1.2.1, u1.2.2) (733) (4398) dL_step_312 rfl (Nat.le_of_ble_eq_true rfl) (Nat.le_of_ble_eq_true rfl) ⟨rfl, rfl, hI1⟩
                · refine j_iconst B (v := 5) dL_step_270 (by decide) ?_
                  refine j_goto B 276 dL_step_271 (by decide) ?_
                  refine j_iload B dL_step_276 1 rfl ?_
                  refine j_iload_n B dL_step_278 3 rfl rfl ?_
                  refine j_bipush B (v := 14) dL_step_279 (by decide) ?_
                  refine j_icmp_ge B 289 dL_step_281 (by decide) (fun h30 => ?_) (fun h30 => ?_)
                  · refine j_iload_n B dL_step_289 5 rfl rfl ?_
                    refine j_iconst B (v := 3) dL_step_290 (by decide) ?_
                    refine j_divv B (nI (y / 3)) (pv_div (b := 3) (by omega) (by omega) (by omega)) (by decide) dL_step_291 ?_
                    refine j_iload_n B dL_step_292 5 rfl rfl ?_
                    refine j_bipush B (v := 9) dL_step_293 (by decide) ?_
                    refine j_divv B (nI (y / 9)) (pv_div (b := 9) (by omega) (by omega) (by omega)) (by decide) dL_step_295 ?_
                    refine j_bipush B (v := 8) dL_step_296 (by decide) ?_
                    refine j_remv B (nI ((y / 9) % 8)) (pv_rem (b := 8) (by omega) (by omega) (by omega)) (by decide) dL_step_298 ?_
                    refine j_aload B dL_step_299 6 rfl ?_
                    refine j_aload B dL_step_301 7 rfl ?_
                    refine j_aload B dL_step_303 8 rfl ?_
                    refine j_aload B dL_step_305 11 rfl ?_
                    refine j_aload B dL_step_307 10 rfl ?_
                    refine j_lawI B 10 [.ref (ad 0), .int 5, .int (nI j), .int (nI (y / 3)), .int (nI ((y / 9) % 8)), .ref (ca 0), .ref (ca 1), .ref (ca 2), .ref (ca 5), .ref (ca 4)] (c_L_works_5 l hl D cD cC cI cZ cL A σ φ2 n ad ca f Bd h2 hd2 j hj (nI (y / 3)) ((y / 9) % 8) (by omega)) q_442 q_443 q_0 q_444 hdL_works rfl ⟨Nat.le_of_ble_eq_true rfl, Nat.le_of_ble_eq_true rfl⟩ (Nat.le_of_ble_eq_true rfl) dL_step_309 rfl (734) (4404) ⟨Nat.le_of_ble_eq_true rfl, Nat.le_of_ble_eq_true rfl⟩ ⟨Nat.le_of_ble_eq_true rfl, Nat.le_of_ble_eq_true rfl⟩ (fun r1 u1 hr1 => ?_)
                    obtain ⟨hr2, hI1⟩ := hr1
                    rw [hr2]
                    exact hret 312 _ 1 (n, ad, u1.1, u1.2.1, u1.2.2) (734) (4404) dL_step_312 rfl (Nat.le_of_ble_eq_true rfl) (Nat.le_of_ble_eq_true rfl) ⟨rfl, rfl, hI1⟩
                  · refine j_iload B dL_step_284 0 rfl ?_
                    refine j_goto B 292 dL_step_286 (by decide) ?_
                    refine j_iload_n B dL_step_292 5 rfl rfl ?_
                    refine j_bipush B (v := 9) dL_step_293 (by decide) ?_
                    refine j_divv B (nI (y / 9)) (pv_div (b := 9) (by omega) (by omega) (by omega)) (by decide) dL_step_295 ?_
                    refine j_bipush B (v := 8) dL_step_296 (by decide) ?_
                    refine j_remv B (nI ((y / 9) % 8)) (pv_rem (b := 8) (by omega) (by omega) (by omega)) (by decide) dL_step_298 ?_
                    refine j_aload B dL_step_299 6 rfl ?_
                    refine j_aload B dL_step_301 7 rfl ?_
                    refine j_aload B dL_step_303 8 rfl ?_
                    refine j_aload B dL_step_305 11 rfl ?_
                    refine j_aload B dL_step_307 10 rfl ?_
                    refine j_lawI B 10 [.ref (ad 0), .int 5, .int (nI j), .int (nI ((y / 3) % 3)), .int (nI ((y / 9) % 8)), .ref (ca 0), .ref (ca 1), .ref (ca 2), .ref (ca 5), .ref (ca 4)] (c_L_works_5 l hl D cD cC cI cZ cL A σ φ2 n ad ca f Bd h2 hd2 j hj (nI ((y / 3) % 3)) ((y / 9) % 8) (by omega)) q_442 q_443 q_0 q_444 hdL_works rfl ⟨Nat.le_of_ble_eq_true rfl, Nat.le_of_ble_eq_true rfl⟩ (Nat.le_of_ble_eq_true rfl) dL_step_309 rfl (734) (4404) ⟨Nat.le_of_ble_eq_true rfl, Nat.le_of_ble_eq_true rfl⟩ ⟨Nat.le_of_ble_eq_true rfl, Nat.le_of_ble_eq_true rfl⟩ (fun r1 u1 hr1 => ?_)
                    obtain ⟨hr2, hI1⟩ := hr1
                    rw [hr2]
                    exact hret 312 _ 1 (n, ad, u1.1, u1.2.1, u1.2.2) (734) (4404) dL_step_312 rfl (Nat.le_of_ble_eq_true rfl) (Nat.le_of_ble_eq_true rfl) ⟨rfl, rfl, hI1⟩
              · refine j_iconst B (v := 4) dL_step_260 (by decide) ?_
                refine j_goto B 276 dL_step_261 (by decide) ?_
                refine j_iload B dL_step_276 1 rfl ?_
                refine j_iload_n B dL_step_278 3 rfl rfl ?_
                refine j_bipush B (v := 14) dL_step_279 (by decide) ?_
                refine j_icmp_ge B 289 dL_step_281 (by decide) (fun h31 => (by clear B hret kj1; grind : False).elim) (fun h31 => ?_)
                refine j_iload B dL_step_284 0 rfl ?_
                refine j_goto B 292 dL_step_286 (by decide) ?_
                refine j_iload_n B dL_step_292 5 rfl rfl ?_
                refine j_bipush B (v := 9) dL_step_293 (by decide) ?_
                refine j_divv B (nI (y / 9)) (pv_div (b := 9) (by omega) (by omega) (by omega)) (by decide) dL_step_295 ?_
                refine j_bipush B (v := 8) dL_step_296 (by decide) ?_
                refine j_remv B (nI ((y / 9) % 8)) (pv_rem (b := 8) (by omega) (by omega) (by omega)) (by decide) dL_step_298 ?_
                refine j_aload B dL_step_299 6 rfl ?_
                refine j_aload B dL_step_301 7 rfl ?_
                refine j_aload B dL_step_303 8 rfl ?_
                refine j_aload B dL_step_305 11 rfl ?_
                refine j_aload B dL_step_307 10 rfl ?_
                refine j_lawI B 10 [.ref (ad 0), .int 4, .int (nI j), .int (nI ((y / 3) % 3)), .int (nI ((y / 9) % 8)), .ref (ca 0), .ref (ca 1), .ref (ca 2), .ref (ca 5), .ref (ca 4)] (c_L_works_4 l hl D cD cC cI cZ cL A σ φ2 n ad ca f Bd h2 hd2 j hj ((y / 3) % 3) (by omega) ((y / 9) % 8) (by omega)) q_442 q_443 q_0 q_444 hdL_works rfl ⟨Nat.le_of_ble_eq_true rfl, Nat.le_of_ble_eq_true rfl⟩ (Nat.le_of_ble_eq_true rfl) dL_step_309 rfl (734) (4404) ⟨Nat.le_of_ble_eq_true rfl, Nat.le_of_ble_eq_true rfl⟩ ⟨Nat.le_of_ble_eq_true rfl, Nat.le_of_ble_eq_true rfl⟩ (fun r1 u1 hr1 => ?_)
                obtain ⟨hr2, hI1⟩ := hr1
                rw [hr2]
                exact hret 312 _ 1 (n, ad, u1.1, u1.2.1, u1.2.2) (734) (4404) dL_step_312 rfl (Nat.le_of_ble_eq_true rfl) (Nat.le_of_ble_eq_true rfl) ⟨rfl, rfl, hI1⟩
            · refine j_aload B dL_step_236 7 rfl ?_
              refine j_iload B dL_step_238 0 rfl ?_
              refine j_pld B (k := 2) (j := j) (v := φ2 2 j) (by omega) rfl (show j < 60 by omega) rfl dL_step_240 ?_
              refine j_iconst B (v := 3) dL_step_241 (by decide) ?_
              refine j_andv B (nI a0) (by rw [e20]; exact pv_k3a a0 ha0 b0 hb0) dL_step_242 ?_
              refine j_goto B 251 dL_step_243 (by decide) ?_
              refine j_istore B (L' := [(11, .int (nI a0)), (10, .int (nI j)), (0, .ref (ad 0)), (1, .int (nI w)), (2, .int (nI x)), (3, .int (nI y)), (4, .ref (ca 0)), (5, .ref (ca 1)), (6, .ref (ca 2)), (7, .ref (ca 3)), (8, .ref (ca 4)), (9, .ref (ca 5))]) dL_step_251 (by decide) rfl ?_
              refine j_aload_n B dL_step_253 2 rfl rfl ?_
              refine j_iload_n B dL_step_254 3 rfl rfl ?_
              refine j_bipush B (v := 14) dL_step_255 (by decide) ?_
              refine j_icmp_ge B 264 dL_step_257 (by decide) (fun h32 => ?_) (fun h32 => ?_)
              · refine j_iload_n B dL_step_264 3 rfl rfl ?_
                refine j_bipush B (v := 14) dL_step_265 (by decide) ?_
                refine j_icmp_ne B 274 dL_step_267 (by decide) (fun h33 => ?_) (fun h33 => ?_)
                · refine j_bipush B (v := 6) dL_step_274 (by decide) ?_
                  refine j_iload B dL_step_276 1 rfl ?_
                  refine j_iload_n B dL_step_278 3 rfl rfl ?_
                  refine j_bipush B (v := 14) dL_step_279 (by decide) ?_
                  refine j_icmp_ge B 289 dL_step_281 (by decide) (fun h34 => ?_) (fun h34 => ?_)
                  · refine j_iload_n B dL_step_289 5 rfl rfl ?_
                    refine j_iconst B (v := 3) dL_step_290 (by decide) ?_
                    refine j_divv B (nI (y / 3)) (pv_div (b := 3) (by omega) (by omega) (by omega)) (by decide) dL_step_291 ?_
                    refine j_iload_n B dL_step_292 5 rfl rfl ?_
                    refine j_bipush B (v := 9) dL_step_293 (by decide) ?_
                    refine j_divv B (nI (y / 9)) (pv_div (b := 9) (by omega) (by omega) (by omega)) (by decide) dL_step_295 ?_
                    refine j_bipush B (v := 8) dL_step_296 (by decide) ?_
                    refine j_remv B (nI ((y / 9) % 8)) (pv_rem (b := 8) (by omega) (by omega) (by omega)) (by decide) dL_step_298 ?_
                    refine j_aload B dL_step_299 6 rfl ?_
                    refine j_aload B dL_step_301 7 rfl ?_
                    refine j_aload B dL_step_303 8 rfl ?_
                    refine j_aload B dL_step_305 11 rfl ?_
                    refine j_aload B dL_step_307 10 rfl ?_
                    refine j_lawI B 10 [.ref (ad 0), .int 6, .int (nI j), .int (nI (y / 3)), .int (nI ((y / 9) % 8)), .ref (ca 0), .ref (ca 1), .ref (ca 2), .ref (ca 5), .ref (ca 4)] (c_L_works_6 l hl D cD cC cI cZ cL A σ φ2 n ad ca f Bd h2 hd2 j hj (y / 3) (by omega) ((y / 9) % 8) (by omega)) q_442 q_443 q_0 q_444 hdL_works rfl ⟨Nat.le_of_ble_eq_true rfl, Nat.le_of_ble_eq_true rfl⟩ (Nat.le_of_ble_eq_true rfl) dL_step_309 rfl (733) (4398) ⟨Nat.le_of_ble_eq_true rfl, Nat.le_of_ble_eq_true rfl⟩ ⟨Nat.le_of_ble_eq_true rfl, Nat.le_of_ble_eq_true rfl⟩ (fun r1 u1 hr1 => ?_)
                    obtain ⟨hr2, hI1⟩ := hr1
                    rw [hr2]
                    exact hret 312 _ 1 (n, ad, u1.1, u1.2.1, u1.2.2) (733) (4398) dL_step_312 rfl (Nat.le_of_ble_eq_true rfl) (Nat.le_of_ble_eq_true rfl) ⟨rfl, rfl, hI1⟩
                  · refine j_iload B dL_step_284 0 rfl ?_
                    refine j_goto B 292 dL_step_286 (by decide) ?_
                    refine j_iload_n B dL_step_292 5 rfl rfl ?_
                    refine j_bipush B (v := 9) dL_step_293 (by decide) ?_
                    refine j_divv B (nI (y / 9)) (pv_div (b := 9) (by omega) (by omega) (by omega)) (by decide) dL_step_295 ?_
                    refine j_bipush B (v := 8) dL_step_296 (by decide) ?_
                    refine j_remv B (nI ((y / 9) % 8)) (pv_rem (b := 8) (by omega) (by omega) (by omega)) (by decide) dL_step_298 ?_
                    refine j_aload B dL_step_299 6 rfl ?_
                    refine j_aload B dL_step_301 7 rfl ?_
                    refine j_aload B dL_step_303 8 rfl ?_
                    refine j_aload B dL_step_305 11 rfl ?_
                    refine j_aload B dL_step_307 10 rfl ?_
                    refine j_lawI B 10 [.ref (ad 0), .int 6, .int (nI j), .int (nI a0), .int (nI ((y / 9) % 8)), .ref (ca 0), .ref (ca 1), .ref (ca 2), .ref (ca 5), .ref (ca 4)] (c_L_works_6 l hl D cD cC cI cZ cL A σ φ2 n ad ca f Bd h2 hd2 j hj a0 (by omega) ((y / 9) % 8) (by omega)) q_442 q_443 q_0 q_444 hdL_works rfl ⟨Nat.le_of_ble_eq_true rfl, Nat.le_of_ble_eq_true rfl⟩ (Nat.le_of_ble_eq_true rfl) dL_step_309 rfl (733) (4398) ⟨Nat.le_of_ble_eq_true rfl, Nat.le_of_ble_eq_true rfl⟩ ⟨Nat.le_of_ble_eq_true rfl, Nat.le_of_ble_eq_true rfl⟩ (fun r1 u1 hr1 => ?_)
                    obtain ⟨hr2, hI1⟩ := hr1
                    rw [hr2]
                    exact hret 312 _ 1 (n, ad, u1.1, u1.2.1, u1.2.2) (733) (4398) dL_step_312 rfl (Nat.le_of_ble_eq_true rfl) (Nat.le_of_ble_eq_true rfl) ⟨rfl, rfl, hI1⟩
                · refine j_iconst B (v := 5) dL_step_270 (by decide) ?_
                  refine j_goto B 276 dL_step_271 (by decide) ?_
                  refine j_iload B dL_step_276 1 rfl ?_
                  refine j_iload_n B dL_step_278 3 rfl rfl ?_
                  refine j_bipush B (v := 14) dL_step_279 (by decide) ?_
                  refine j_icmp_ge B 289 dL_step_281 (by decide) (fun h35 => ?_) (fun h35 => ?_)
                  · refine j_iload_n B dL_step_289 5 rfl rfl ?_
                    refine j_iconst B (v := 3) dL_step_290 (by decide) ?_
                    refine j_divv B (nI (y / 3)) (pv_div (b := 3) (by omega) (by omega) (by omega)) (by decide) dL_step_291 ?_
                    refine j_iload_n B dL_step_292 5 rfl rfl ?_
                    refine j_bipush B (v := 9) dL_step_293 (by decide) ?_
                    refine j_divv B (nI (y / 9)) (pv_div (b := 9) (by omega) (by omega) (by omega)) (by decide) dL_step_295 ?_
                    refine j_bipush B (v := 8) dL_step_296 (by decide) ?_
                    refine j_remv B (nI ((y / 9) % 8)) (pv_rem (b := 8) (by omega) (by omega) (by omega)) (by decide) dL_step_298 ?_
                    refine j_aload B dL_step_299 6 rfl ?_
                    refine j_aload B dL_step_301 7 rfl ?_
                    refine j_aload B dL_step_303 8 rfl ?_
                    refine j_aload B dL_step_305 11 rfl ?_
                    refine j_aload B dL_step_307 10 rfl ?_
                    refine j_lawI B 10 [.ref (ad 0), .int 5, .int (nI j), .int (nI (y / 3)), .int (nI ((y / 9) % 8)), .ref (ca 0), .ref (ca 1), .ref (ca 2), .ref (ca 5), .ref (ca 4)] (c_L_works_5 l hl D cD cC cI cZ cL A σ φ2 n ad ca f Bd h2 hd2 j hj (nI (y / 3)) ((y / 9) % 8) (by omega)) q_442 q_443 q_0 q_444 hdL_works rfl ⟨Nat.le_of_ble_eq_true rfl, Nat.le_of_ble_eq_true rfl⟩ (Nat.le_of_ble_eq_true rfl) dL_step_309 rfl (734) (4404) ⟨Nat.le_of_ble_eq_true rfl, Nat.le_of_ble_eq_true rfl⟩ ⟨Nat.le_of_ble_eq_true rfl, Nat.le_of_ble_eq_true rfl⟩ (fun r1 u1 hr1 => ?_)
                    obtain ⟨hr2, hI1⟩ := hr1
                    rw [hr2]
                    exact hret 312 _ 1 (n, ad, u1.1, u1.2.1, u1.2.2) (734) (4404) dL_step_312 rfl (Nat.le_of_ble_eq_true rfl) (Nat.le_of_ble_eq_true rfl) ⟨rfl, rfl, hI1⟩
                  · refine j_iload B dL_step_284 0 rfl ?_
                    refine j_goto B 292 dL_step_286 (by decide) ?_
                    refine j_iload_n B dL_step_292 5 rfl rfl ?_
                    refine j_bipush B (v := 9) dL_step_293 (by decide) ?_
                    refine j_divv B (nI (y / 9)) (pv_div (b := 9) (by omega) (by omega) (by omega)) (by decide) dL_step_295 ?_
                    refine j_bipush B (v := 8) dL_step_296 (by decide) ?_
                    refine j_remv B (nI ((y / 9) % 8)) (pv_rem (b := 8) (by omega) (by omega) (by omega)) (by decide) dL_step_298 ?_
                    refine j_aload B dL_step_299 6 rfl ?_
                    refine j_aload B dL_step_301 7 rfl ?_
                    refine j_aload B dL_step_303 8 rfl ?_
                    refine j_aload B dL_step_305 11 rfl ?_
                    refine j_aload B dL_step_307 10 rfl ?_
                    refine j_lawI B 10 [.ref (ad 0), .int 5, .int (nI j), .int (nI a0), .int (nI ((y / 9) % 8)), .ref (ca 0), .ref (ca 1), .ref (ca 2), .ref (ca 5), .ref (ca 4)] (c_L_works_5 l hl D cD cC cI cZ cL A σ φ2 n ad ca f Bd h2 hd2 j hj (nI a0) ((y / 9) % 8) (by omega)) q_442 q_443 q_0 q_444 hdL_works rfl ⟨Nat.le_of_ble_eq_true rfl, Nat.le_of_ble_eq_true rfl⟩ (Nat.le_of_ble_eq_true rfl) dL_step_309 rfl (734) (4404) ⟨Nat.le_of_ble_eq_true rfl, Nat.le_of_ble_eq_true rfl⟩ ⟨Nat.le_of_ble_eq_true rfl, Nat.le_of_ble_eq_true rfl⟩ (fun r1 u1 hr1 => ?_)
                    obtain ⟨hr2, hI1⟩ := hr1
                    rw [hr2]
                    exact hret 312 _ 1 (n, ad, u1.1, u1.2.1, u1.2.2) (734) (4404) dL_step_312 rfl (Nat.le_of_ble_eq_true rfl) (Nat.le_of_ble_eq_true rfl) ⟨rfl, rfl, hI1⟩
              · refine j_iconst B (v := 4) dL_step_260 (by decide) ?_
                refine j_goto B 276 dL_step_261 (by decide) ?_
                refine j_iload B dL_step_276 1 rfl ?_
                refine j_iload_n B dL_step_278 3 rfl rfl ?_
                refine j_bipush B (v := 14) dL_step_279 (by decide) ?_
                refine j_icmp_ge B 289 dL_step_281 (by decide) (fun h36 => (by clear B hret kj1; grind : False).elim) (fun h36 => ?_)
                refine j_iload B dL_step_284 0 rfl ?_
                refine j_goto B 292 dL_step_286 (by decide) ?_
                refine j_iload_n B dL_step_292 5 rfl rfl ?_
                refine j_bipush B (v := 9) dL_step_293 (by decide) ?_
                refine j_divv B (nI (y / 9)) (pv_div (b := 9) (by omega) (by omega) (by omega)) (by decide) dL_step_295 ?_
                refine j_bipush B (v := 8) dL_step_296 (by decide) ?_
                refine j_remv B (nI ((y / 9) % 8)) (pv_rem (b := 8) (by omega) (by omega) (by omega)) (by decide) dL_step_298 ?_
                refine j_aload B dL_step_299 6 rfl ?_
                refine j_aload B dL_step_301 7 rfl ?_
                refine j_aload B dL_step_303 8 rfl ?_
                refine j_aload B dL_step_305 11 rfl ?_
                refine j_aload B dL_step_307 10 rfl ?_
                refine j_lawI B 10 [.ref (ad 0), .int 4, .int (nI j), .int (nI a0), .int (nI ((y / 9) % 8)), .ref (ca 0), .ref (ca 1), .ref (ca 2), .ref (ca 5), .ref (ca 4)] (c_L_works_4 l hl D cD cC cI cZ cL A σ φ2 n ad ca f Bd h2 hd2 j hj a0 (by omega) ((y / 9) % 8) (by omega)) q_442 q_443 q_0 q_444 hdL_works rfl ⟨Nat.le_of_ble_eq_true rfl, Nat.le_of_ble_eq_true rfl⟩ (Nat.le_of_ble_eq_true rfl) dL_step_309 rfl (734) (4404) ⟨Nat.le_of_ble_eq_true rfl, Nat.le_of_ble_eq_true rfl⟩ ⟨Nat.le_of_ble_eq_true rfl, Nat.le_of_ble_eq_true rfl⟩ (fun r1 u1 hr1 => ?_)
                obtain ⟨hr2, hI1⟩ := hr1
                rw [hr2]
                exact hret 312 _ 1 (n, ad, u1.1, u1.2.1, u1.2.2) (734) (4404) dL_step_312 rfl (Nat.le_of_ble_eq_true rfl) (Nat.le_of_ble_eq_true rfl) ⟨rfl, rfl, hI1⟩
        · refine j_aload_n B dL_step_197 1 rfl rfl ?_
          refine j_iload_n B dL_step_198 2 rfl rfl ?_
          refine j_bipush B (v := 10) dL_step_199 (by decide) ?_
          refine j_icmp_ge B 208 dL_step_201 (by decide) (fun h37 => ?_) (fun h37 => ?_)
          · refine j_iconst B (v := 3) dL_step_208 (by decide) ?_
            refine j_iload B dL_step_209 0 rfl ?_
            refine j_iload_n B dL_step_211 4 rfl rfl ?_
            refine j_iconst B (v := 4) dL_step_212 (by decide) ?_
            refine j_remv B (nI (y % 4)) (pv_rem (b := 4) (by omega) (by omega) (by omega)) (by decide) dL_step_213 ?_
            refine j_aload B dL_step_214 5 rfl ?_
            refine j_aload B dL_step_216 6 rfl ?_
            refine j_aload B dL_step_218 10 rfl ?_
            refine j_lawI B 7 [.ref (ad 0), .int 3, .int (nI j), .int (nI (y % 4)), .ref (ca 0), .ref (ca 1), .ref (ca 5)] (c_L_packs_3 l hl D cD cC cI cZ cL A σ φ2 n ad ca f Bd h2 hd2 j hj (nI (y % 4))) q_432 q_433 q_0 q_434 hdL_packs rfl ⟨Nat.le_of_ble_eq_true rfl, Nat.le_of_ble_eq_true rfl⟩ (Nat.le_of_ble_eq_true rfl) dL_step_220 rfl (730) (4380) ⟨Nat.le_of_ble_eq_true rfl, Nat.le_of_ble_eq_true rfl⟩ ⟨Nat.le_of_ble_eq_true rfl, Nat.le_of_ble_eq_true rfl⟩ (fun r1 u1 hr1 => ?_)
            obtain ⟨hr2, hI1⟩ := hr1
            rw [hr2]
            exact hret 223 _ 1 (n, ad, u1.1, u1.2.1, u1.2.2) (730) (4380) dL_step_223 rfl (Nat.le_of_ble_eq_true rfl) (Nat.le_of_ble_eq_true rfl) ⟨rfl, rfl, hI1⟩
          · refine j_iconst B (v := 2) dL_step_204 (by decide) ?_
            refine j_goto B 209 dL_step_205 (by decide) ?_
            refine j_iload B dL_step_209 0 rfl ?_
            refine j_iload_n B dL_step_211 4 rfl rfl ?_
            refine j_iconst B (v := 4) dL_step_212 (by decide) ?_
            refine j_remv B (nI (y % 4)) (pv_rem (b := 4) (by omega) (by omega) (by omega)) (by decide) dL_step_213 ?_
            refine j_aload B dL_step_214 5 rfl ?_
            refine j_aload B dL_step_216 6 rfl ?_
            refine j_aload B dL_step_218 10 rfl ?_
            refine j_lawI B 7 [.ref (ad 0), .int 2, .int (nI j), .int (nI (y % 4)), .ref (ca 0), .ref (ca 1), .ref (ca 5)] (c_L_packs_2 l hl D cD cC cI cZ cL A σ φ2 n ad ca f Bd h2 hd2 j hj (y % 4) (by omega)) q_432 q_433 q_0 q_434 hdL_packs rfl ⟨Nat.le_of_ble_eq_true rfl, Nat.le_of_ble_eq_true rfl⟩ (Nat.le_of_ble_eq_true rfl) dL_step_220 rfl (793) (4758) ⟨Nat.le_of_ble_eq_true rfl, Nat.le_of_ble_eq_true rfl⟩ ⟨Nat.le_of_ble_eq_true rfl, Nat.le_of_ble_eq_true rfl⟩ (fun r1 u1 hr1 => ?_)
            obtain ⟨hr2, hI1⟩ := hr1
            rw [hr2]
            exact hret 223 _ 1 (n, ad, u1.1, u1.2.1, u1.2.2) (793) (4758) dL_step_223 rfl (Nat.le_of_ble_eq_true rfl) (Nat.le_of_ble_eq_true rfl) ⟨rfl, rfl, hI1⟩
      · refine j_aload_n B dL_step_152 1 rfl rfl ?_
        refine j_aload_n B dL_step_153 1 rfl rfl ?_
        refine j_iload B dL_step_154 0 rfl ?_
        refine j_ask B (σ 6 j) 1 [.int (nI j)] (c_X2_offeredTo l hl D cD cC cI cZ cL (pvA A ca) σ n ad hG (nI j)) (pv_askD hG (by omega) 6) q_268 q_269 q_270 q_1 q_271 hdX2_offeredTo rfl ⟨Nat.le_of_ble_eq_true rfl, Nat.le_of_ble_eq_true rfl⟩ (Nat.le_of_ble_eq_true rfl) dL_step_156 rfl (361) (2166) ⟨Nat.le_of_ble_eq_true rfl, Nat.le_of_ble_eq_true rfl⟩ ⟨Nat.le_of_ble_eq_true rfl, Nat.le_of_ble_eq_true rfl⟩ ?_
        refine j_if_lt B 172 dL_step_159 (by decide) (fun h38 => ?_) (fun h38 => ?_)
        · refine j_iconst B (v := 0) dL_step_172 (by decide) ?_
          refine j_iload B dL_step_173 0 rfl ?_
          refine j_iload_n B dL_step_175 4 rfl rfl ?_
          refine j_iconst B (v := 4) dL_step_176 (by decide) ?_
          refine j_divv B (nI (y / 4)) (pv_div (b := 4) (by omega) (by omega) (by omega)) (by decide) dL_step_177 ?_
          refine j_bipush B (v := 8) dL_step_178 (by decide) ?_
          refine j_remv B (nI ((y / 4) % 8)) (pv_rem (b := 8) (by omega) (by omega) (by omega)) (by decide) dL_step_180 ?_
          refine j_aload B dL_step_181 5 rfl ?_
          refine j_aload B dL_step_183 6 rfl ?_
          refine j_aload B dL_step_185 10 rfl ?_
          refine j_lawI B 7 [.ref (ad 0), .int 0, .int (nI j), .int (nI ((y / 4) % 8)), .ref (ca 0), .ref (ca 1), .ref (ca 5)] (c_L_hands_0 l hl D cD cC cI cZ cL A σ φ2 n ad ca f Bd h2 hd2 j hj (((y / 4) % 8)) (by omega)) q_284 q_285 q_0 q_286 hdL_hands rfl ⟨Nat.le_of_ble_eq_true rfl, Nat.le_of_ble_eq_true rfl⟩ (Nat.le_of_ble_eq_true rfl) dL_step_187 rfl (733) (4398) ⟨Nat.le_of_ble_eq_true rfl, Nat.le_of_ble_eq_true rfl⟩ ⟨Nat.le_of_ble_eq_true rfl, Nat.le_of_ble_eq_true rfl⟩ (fun r1 u1 hr1 => ?_)
          obtain ⟨hr2, hI1⟩ := hr1
          rw [hr2]
          exact hret 190 _ 1 (n, ad, u1.1, u1.2.1, u1.2.2) (733) (4398) dL_step_190 rfl (Nat.le_of_ble_eq_true rfl) (Nat.le_of_ble_eq_true rfl) ⟨rfl, rfl, hI1⟩
        · have hf : σ 6 j ≠ -1 := fun z => h38 (by rw [z]; decide)
          refine j_iload_n B dL_step_162 4 rfl rfl ?_
          refine j_iconst B (v := 4) dL_step_163 (by decide) ?_
          refine j_remv B (nI (y % 4)) (pv_rem (b := 4) (by omega) (by omega) (by omega)) (by decide) dL_step_164 ?_
          refine j_if_le B 172 dL_step_165 (by decide) (fun h39 => ?_) (fun h39 => ?_)
          · refine j_iconst B (v := 0) dL_step_172 (by decide) ?_
            refine j_iload B dL_step_173 0 rfl ?_
            refine j_iload_n B dL_step_175 4 rfl rfl ?_
            refine j_iconst B (v := 4) dL_step_176 (by decide) ?_
            refine j_divv B (nI (y / 4)) (pv_div (b := 4) (by omega) (by omega) (by omega)) (by decide) dL_step_177 ?_
            refine j_bipush B (v := 8) dL_step_178 (by decide) ?_
            refine j_remv B (nI ((y / 4) % 8)) (pv_rem (b := 8) (by omega) (by omega) (by omega)) (by decide) dL_step_180 ?_
            refine j_aload B dL_step_181 5 rfl ?_
            refine j_aload B dL_step_183 6 rfl ?_
            refine j_aload B dL_step_185 10 rfl ?_
            refine j_lawI B 7 [.ref (ad 0), .int 0, .int (nI j), .int (nI ((y / 4) % 8)), .ref (ca 0), .ref (ca 1), .ref (ca 5)] (c_L_hands_0 l hl D cD cC cI cZ cL A σ φ2 n ad ca f Bd h2 hd2 j hj (((y / 4) % 8)) (by omega)) q_284 q_285 q_0 q_286 hdL_hands rfl ⟨Nat.le_of_ble_eq_true rfl, Nat.le_of_ble_eq_true rfl⟩ (Nat.le_of_ble_eq_true rfl) dL_step_187 rfl (733) (4398) ⟨Nat.le_of_ble_eq_true rfl, Nat.le_of_ble_eq_true rfl⟩ ⟨Nat.le_of_ble_eq_true rfl, Nat.le_of_ble_eq_true rfl⟩ (fun r1 u1 hr1 => ?_)
            obtain ⟨hr2, hI1⟩ := hr1
            rw [hr2]
            exact hret 190 _ 1 (n, ad, u1.1, u1.2.1, u1.2.2) (733) (4398) dL_step_190 rfl (Nat.le_of_ble_eq_true rfl) (Nat.le_of_ble_eq_true rfl) ⟨rfl, rfl, hI1⟩
          · refine j_iconst B (v := 1) dL_step_168 (by decide) ?_
            refine j_goto B 173 dL_step_169 (by decide) ?_
            refine j_iload B dL_step_173 0 rfl ?_
            refine j_iload_n B dL_step_175 4 rfl rfl ?_
            refine j_iconst B (v := 4) dL_step_176 (by decide) ?_
            refine j_divv B (nI (y / 4)) (pv_div (b := 4) (by omega) (by omega) (by omega)) (by decide) dL_step_177 ?_
            refine j_bipush B (v := 8) dL_step_178 (by decide) ?_
            refine j_remv B (nI ((y / 4) % 8)) (pv_rem (b := 8) (by omega) (by omega) (by omega)) (by decide) dL_step_180 ?_
            refine j_aload B dL_step_181 5 rfl ?_
            refine j_aload B dL_step_183 6 rfl ?_
            refine j_aload B dL_step_185 10 rfl ?_
            refine j_lawI B 7 [.ref (ad 0), .int 1, .int (nI j), .int (nI ((y / 4) % 8)), .ref (ca 0), .ref (ca 1), .ref (ca 5)] (c_L_hands_1 l hl D cD cC cI cZ cL A σ φ2 n ad ca f Bd h2 hd2 j hj (((y / 4) % 8)) (by omega) hf) q_284 q_285 q_0 q_286 hdL_hands rfl ⟨Nat.le_of_ble_eq_true rfl, Nat.le_of_ble_eq_true rfl⟩ (Nat.le_of_ble_eq_true rfl) dL_step_187 rfl (727) (4362) ⟨Nat.le_of_ble_eq_true rfl, Nat.le_of_ble_eq_true rfl⟩ ⟨Nat.le_of_ble_eq_true rfl, Nat.le_of_ble_eq_true rfl⟩ (fun r1 u1 hr1 => ?_)
            obtain ⟨hr2, hI1⟩ := hr1
            rw [hr2]
            exact hret 190 _ 1 (n, ad, u1.1, u1.2.1, u1.2.2) (727) (4362) dL_step_190 rfl (Nat.le_of_ble_eq_true rfl) (Nat.le_of_ble_eq_true rfl) ⟨rfl, rfl, hI1⟩
    · exact kj1
