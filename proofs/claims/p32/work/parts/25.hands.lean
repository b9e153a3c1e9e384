theorem pv_same0 {n : Nat} {σ τ φ ψ : pgSt} (hd : ∀ i, i < n → φ 1 i = pvE σ i) (hE : ∀ i, pvE τ i = pvE σ i) (hp : ∀ i, ψ 1 i = φ 1 i) : ∀ i, i < n → pvB 0 i ∨ pvE τ i = ψ 1 i := fun i hi => Or.inr (by rw [hE, hp, hd i hi])
theorem pv_same1 {n j : Nat} {σ τ φ ψ : pgSt} (hj : j < 64) (hd : ∀ i, i < n → φ 1 i = pvE σ i) (hE : ∀ i, i ≠ j → pvE τ i = pvE σ i) (hp : ∀ i, ψ 1 i = φ 1 i) : ∀ i, i < n → pvB ((1 : Int64) <<< ((nI j).toInt64 &&& 63)) i ∨ pvE τ i = ψ 1 i := fun i hi => by
  by_cases e : i = j
  · exact Or.inl ((pvB_1 hj).mpr e)
  · exact Or.inr (by rw [hE i e, hp, hd i hi])
/-- hands_0 -/
abbrev rm_hands_0 : Room := { frames := 10, cells := 372, slots := 2232, locals := 172 }
set_option maxHeartbeats 4000000 in
set_option maxRecDepth 100000 in
theorem c_L_hands_0 (l : Launch) (hl : l.stackTraces = false) (D : va_G) (cD cC cI cZ cL : ClassId) (A : Nat → Prop) (σ φ : pgSt) (n : Nat) (ad ca : Nat → Nat) (f : Nat → Int64) (Bd : Nat) (h : pvI n σ φ (f 0) Bd) (hd : ∀ i, i < n → φ 1 i = pvE σ i) (j : Nat) (hj : j < n) (k : Nat) (hk : k < 8) : Met l yL_hands (.code yL_hands cL_hands 13 (some .boolean) :: pgWd) rm_hands_0 (pgPc D (pgTys cD cC cI cZ cL) A (pvW D cD cC cI cL A σ n ad φ ca f) [.ref (ad 0), .int 0, .int (nI j), .int (nI k), .ref (ca 0), .ref (ca 1), .ref (ca 5)]) (va_Qi (fun (r : Int32) (u : pgSt × pgSt × (Nat → Int64)) => r = 1 ∧ pvI n u.1 u.2.1 (u.2.2 0) (Bd + 1)) (fun u t9 => (pvW D cD cC cI cL A u.1 n ad u.2.1 ca u.2.2) t9.heap) A) rm_hands_0.cells rm_hands_0.slots A := by
  refine pv_enter (own := RL) (by decide) rfl (Nat.le_of_ble_eq_true rfl) (fun p e s m args below meth cc9 Q B hret => ?_)
  have hG := h.1
  have hn60 : n ≤ 60 := hG.1
  have hc0 : φ 0 0 = nI n := h.2.1.1
  have hm := h.2.2.2.2.2.2
  refine j_aload_n B dL_hands_0 0 rfl rfl ?_
  refine j_iload_n B dL_hands_1 2 rfl rfl ?_
  refine j_ask B (σ 2 j) 1 [.int (nI j)] (c_X2_keeperOf l hl D cD cC cI cZ cL (pvA A ca) σ n ad hG (nI j)) (pv_askD hG (by omega) 2) q_241 q_242 q_243 q_1 q_244 hdX2_keeperOf rfl ⟨Nat.le_of_ble_eq_true rfl, Nat.le_of_ble_eq_true rfl⟩ (Nat.le_of_ble_eq_true rfl) dL_hands_2 rfl (1) (6) ⟨Nat.le_of_ble_eq_true rfl, Nat.le_of_ble_eq_true rfl⟩ ⟨Nat.le_of_ble_eq_true rfl, Nat.le_of_ble_eq_true rfl⟩ ?_
  refine j_istore B (L' := [(7, .int (σ 2 j)), (0, .ref (ad 0)), (1, .int 0), (2, .int (nI j)), (3, .int (nI k)), (4, .ref (ca 0)), (5, .ref (ca 1)), (6, .ref (ca 5))]) dL_hands_5 (by decide) rfl ?_
  refine j_aload_n B dL_hands_7 1 rfl rfl ?_
  refine j_iload_n B dL_hands_8 3 rfl rfl ?_
  refine j_ask B (σ 6 j) 1 [.int (nI j)] (c_X2_offeredTo l hl D cD cC cI cZ cL (pvA A ca) σ n ad hG (nI j)) (pv_askD hG (by omega) 6) q_268 q_269 q_270 q_1 q_271 hdX2_offeredTo rfl ⟨Nat.le_of_ble_eq_true rfl, Nat.le_of_ble_eq_true rfl⟩ (Nat.le_of_ble_eq_true rfl) dL_hands_9 rfl (2) (12) ⟨Nat.le_of_ble_eq_true rfl, Nat.le_of_ble_eq_true rfl⟩ ⟨Nat.le_of_ble_eq_true rfl, Nat.le_of_ble_eq_true rfl⟩ ?_
  refine j_istore B (L' := [(8, .int (σ 6 j)), (7, .int (σ 2 j)), (0, .ref (ad 0)), (1, .int 0), (2, .int (nI j)), (3, .int (nI k)), (4, .ref (ca 0)), (5, .ref (ca 1)), (6, .ref (ca 5))]) dL_hands_12 (by decide) rfl ?_
  refine j_iload_n B dL_hands_14 3 rfl rfl ?_
  refine j_if_ne B 153 dL_hands_15 (by decide) (fun h1 => absurd h1 (by decide)) (fun h1 => ?_)
  refine j_aload_n B dL_hands_18 2 rfl rfl ?_
  refine j_aload B dL_hands_19 8 rfl ?_
  refine j_iload_n B dL_hands_21 4 rfl rfl ?_
  refine j_lawI B 3 [.ref (ad 0), .ref (ca 5), .int (nI j)] (c_L_isFree l hl D cD cC cI cZ cL A σ φ n ad ca f hG j (by omega) (hm j (by omega))) q_287 q_288 q_0 q_289 hdL_isFree rfl ⟨Nat.le_of_ble_eq_true rfl, Nat.le_of_ble_eq_true rfl⟩ (Nat.le_of_ble_eq_true rfl) dL_hands_22 rfl (6) (36) ⟨Nat.le_of_ble_eq_true rfl, Nat.le_of_ble_eq_true rfl⟩ ⟨Nat.le_of_ble_eq_true rfl, Nat.le_of_ble_eq_true rfl⟩ (fun r2 _ h3 => ?_)
  have kj4 : ∀ v5 : Int32, (v5 = 1 ∧ (pgReach σ j ∧ σ 3 j = -1) ∨ v5 = 0 ∧ ¬ (pgReach σ j ∧ σ 3 j = -1)) → pgJ p l e rm_hands_0 s m args below meth cc9 13 A (pvW D cD cC cI cL A σ n ad φ ca f) (7) (42) Q 42 [(8, .int (σ 6 j)), (7, .int (σ 2 j)), (0, .ref (ad 0)), (1, .int 0), (2, .int (nI j)), (3, .int (nI k)), (4, .ref (ca 0)), (5, .ref (ca 1)), (6, .ref (ca 5))] (.int v5 :: []) := by
    intro v5 hv6
    rcases hv6 with ⟨rfl, h7⟩ | ⟨rfl, h7⟩
    · refine j_istore B (L' := [(9, .int 1), (8, .int (σ 6 j)), (7, .int (σ 2 j)), (0, .ref (ad 0)), (1, .int 0), (2, .int (nI j)), (3, .int (nI k)), (4, .ref (ca 0)), (5, .ref (ca 1)), (6, .ref (ca 5))]) dL_hands_42 (by decide) rfl ?_
      refine j_aload_n B dL_hands_44 3 rfl rfl ?_
      refine j_iconst B (v := 0) dL_hands_45 (by decide) ?_
      refine j_iload_n B dL_hands_46 5 rfl rfl ?_
      refine j_iload_n B dL_hands_47 6 rfl rfl ?_
      refine j_iconst B (v := 0) dL_hands_48 (by decide) ?_
      obtain ⟨t1, τ1, et, eτ, hS1, hI1, hE1, hx1, hA1, hB1, hC1⟩ := pv_offer h hj hk
      have hM := c_L_asks_0 l hl D cD cC cI cZ cL A σ φ n ad ca f hG (nI j) (nI k) 0 hS1
      rw [et, eτ] at hM
      refine j_lawW B 5 [.ref (ad 0), .int 0, .int (nI j), .int (nI k), .int 0] hM q_305 q_306 q_0 q_307 hdL_asks rfl ⟨Nat.le_of_ble_eq_true rfl, Nat.le_of_ble_eq_true rfl⟩ (Nat.le_of_ble_eq_true rfl) dL_hands_49 rfl (10) (60) ⟨Nat.le_of_ble_eq_true rfl, Nat.le_of_ble_eq_true rfl⟩ ⟨Nat.le_of_ble_eq_true rfl, Nat.le_of_ble_eq_true rfl⟩ (fun r8 _ h9 => ?_)
      rw [h9]
      clear hM h9 r8
      refine j_istore B (L' := [(10, .int t1), (9, .int 1), (8, .int (σ 6 j)), (7, .int (σ 2 j)), (0, .ref (ad 0)), (1, .int 0), (2, .int (nI j)), (3, .int (nI k)), (4, .ref (ca 0)), (5, .ref (ca 1)), (6, .ref (ca 5))]) dL_hands_52 (by decide) rfl ?_
      refine j_iload_n B dL_hands_54 7 rfl rfl ?_
      refine j_iload B dL_hands_55 3 rfl ?_
      refine j_icmp_ne B 87 dL_hands_57 (by decide) (fun h10 => ?_) (fun h10 => ?_)
      · refine j_iload B dL_hands_87 0 rfl ?_
        refine j_iload B dL_hands_89 1 rfl ?_
        refine j_if_eq B 99 dL_hands_91 (by decide) (fun h11 => absurd h11 (by decide)) (fun h11 => ?_)
        refine j_iload B dL_hands_94 3 rfl ?_
        refine j_goto B 101 dL_hands_96 (by decide) ?_
        refine j_icmp_ne B 151 dL_hands_101 (by decide) (fun h12 => (by clear B hret; grind : False).elim) (fun h12 => ?_)
        refine j_aload_n B dL_hands_104 4 rfl rfl ?_
        refine j_iload_n B dL_hands_105 6 rfl rfl ?_
        refine j_ask B (τ1 6 j) 1 [.int (nI j)] (c_X2_offeredTo l hl D cD cC cI cZ cL (pvA A ca) τ1 n ad hI1.1 (nI j)) (pv_askD hI1.1 (by omega) 6) q_268 q_269 q_270 q_1 q_271 hdX2_offeredTo rfl ⟨Nat.le_of_ble_eq_true rfl, Nat.le_of_ble_eq_true rfl⟩ (Nat.le_of_ble_eq_true rfl) dL_hands_106 rfl (11) (66) ⟨Nat.le_of_ble_eq_true rfl, Nat.le_of_ble_eq_true rfl⟩ ⟨Nat.le_of_ble_eq_true rfl, Nat.le_of_ble_eq_true rfl⟩ ?_
        refine j_iload B dL_hands_109 1 rfl ?_
        refine j_if_eq B 118 dL_hands_111 (by decide) (fun h13 => absurd h13 (by decide)) (fun h13 => ?_)
        refine j_iload_n B dL_hands_114 7 rfl rfl ?_
        refine j_goto B 120 dL_hands_115 (by decide) ?_
        refine j_icmp_ne B 151 dL_hands_120 (by decide) (fun h14 => (by clear B hret; grind : False).elim) (fun h14 => ?_)
        refine j_aload_n B dL_hands_123 4 rfl rfl ?_
        refine j_iload_n B dL_hands_124 6 rfl rfl ?_
        refine j_ask B (τ1 2 j) 1 [.int (nI j)] (c_X2_keeperOf l hl D cD cC cI cZ cL (pvA A ca) τ1 n ad hI1.1 (nI j)) (pv_askD hI1.1 (by omega) 2) q_241 q_242 q_243 q_1 q_244 hdX2_keeperOf rfl ⟨Nat.le_of_ble_eq_true rfl, Nat.le_of_ble_eq_true rfl⟩ (Nat.le_of_ble_eq_true rfl) dL_hands_125 rfl (12) (72) ⟨Nat.le_of_ble_eq_true rfl, Nat.le_of_ble_eq_true rfl⟩ ⟨Nat.le_of_ble_eq_true rfl, Nat.le_of_ble_eq_true rfl⟩ ?_
        refine j_iload B dL_hands_128 3 rfl ?_
        refine j_icmp_ne B 151 dL_hands_130 (by decide) (fun h15 => (by clear B hret; grind : False).elim) (fun h15 => ?_)
        refine j_aload_n B dL_hands_133 4 rfl rfl ?_
        refine j_aload B dL_hands_134 8 rfl ?_
        refine j_aload B dL_hands_136 9 rfl ?_
        refine j_lconst B (v := 1) dL_hands_138 (by decide) ?_
        refine j_iload_n B dL_hands_139 6 rfl rfl ?_
        refine j_lshl B dL_hands_140 ?_
        refine j_lawI B 4 [.ref (ad 0), .ref (ca 0), .ref (ca 1), .long ((1 : Int64) <<< ((nI j).toInt64 &&& 63))] (c_L_areSame l hl D cD cC cI cZ cL A τ1 φ n ad ca f hI1.1 (hc0) ((1 : Int64) <<< ((nI j).toInt64 &&& 63)) (pv_same1 (pv_j64 h hj) hd hE1 (fun _ => rfl))) q_429 q_430 q_0 q_431 hdL_areSame rfl ⟨Nat.le_of_ble_eq_true rfl, Nat.le_of_ble_eq_true rfl⟩ (Nat.le_of_ble_eq_true rfl) dL_hands_141 rfl (372) (2232) ⟨Nat.le_of_ble_eq_true rfl, Nat.le_of_ble_eq_true rfl⟩ ⟨Nat.le_of_ble_eq_true rfl, Nat.le_of_ble_eq_true rfl⟩ (fun r16 _ h17 => ?_)
        subst h17
        refine j_if_eq B 151 dL_hands_144 (by decide) (fun h18 => absurd h18 (by decide)) (fun h18 => ?_)
        refine j_iconst B (v := 1) dL_hands_147 (by decide) ?_
        refine j_goto B 152 dL_hands_148 (by decide) ?_
        exact hret 152 _ 1 (τ1, φ, f) (372) (2232) dL_hands_152 rfl (Nat.le_of_ble_eq_true rfl) (Nat.le_of_ble_eq_true rfl) ⟨rfl, pvI_le hI1 (by omega)⟩
      · refine j_iload B dL_hands_60 0 rfl ?_
        refine j_bipush B (v := (-9)) dL_hands_62 (by decide) ?_
        refine j_icmp_ne B 83 dL_hands_64 (by decide) (fun h19 => (by clear B hret; grind : False).elim) (fun h19 => ?_)
        refine j_aload_n B dL_hands_67 4 rfl rfl ?_
        refine j_aload B dL_hands_68 8 rfl ?_
        refine j_aload B dL_hands_70 9 rfl ?_
        refine j_lconst B (v := 0) dL_hands_72 (by decide) ?_
        refine j_lawI B 4 [.ref (ad 0), .ref (ca 0), .ref (ca 1), .long 0] (c_L_areSame l hl D cD cC cI cZ cL A τ1 φ n ad ca f hI1.1 (hc0) 0 (pv_same0 hd ((hA1 (by assumption)).2) (fun _ => rfl))) q_429 q_430 q_0 q_431 hdL_areSame rfl ⟨Nat.le_of_ble_eq_true rfl, Nat.le_of_ble_eq_true rfl⟩ (Nat.le_of_ble_eq_true rfl) dL_hands_73 rfl (370) (2220) ⟨Nat.le_of_ble_eq_true rfl, Nat.le_of_ble_eq_true rfl⟩ ⟨Nat.le_of_ble_eq_true rfl, Nat.le_of_ble_eq_true rfl⟩ (fun r20 _ h21 => ?_)
        subst h21
        refine j_if_eq B 83 dL_hands_76 (by decide) (fun h22 => absurd h22 (by decide)) (fun h22 => ?_)
        refine j_iconst B (v := 1) dL_hands_79 (by decide) ?_
        refine j_goto B 152 dL_hands_80 (by decide) ?_
        exact hret 152 _ 1 (τ1, φ, f) (370) (2220) dL_hands_152 rfl (Nat.le_of_ble_eq_true rfl) (Nat.le_of_ble_eq_true rfl) ⟨rfl, pvI_le hI1 (by omega)⟩
    · refine j_istore B (L' := [(9, .int 0), (8, .int (σ 6 j)), (7, .int (σ 2 j)), (0, .ref (ad 0)), (1, .int 0), (2, .int (nI j)), (3, .int (nI k)), (4, .ref (ca 0)), (5, .ref (ca 1)), (6, .ref (ca 5))]) dL_hands_42 (by decide) rfl ?_
      refine j_aload_n B dL_hands_44 3 rfl rfl ?_
      refine j_iconst B (v := 0) dL_hands_45 (by decide) ?_
      refine j_iload_n B dL_hands_46 5 rfl rfl ?_
      refine j_iload_n B dL_hands_47 6 rfl rfl ?_
      refine j_iconst B (v := 0) dL_hands_48 (by decide) ?_
      obtain ⟨t1, τ1, et, eτ, hS1, hI1, hE1, hx1, hA1, hB1, hC1⟩ := pv_offer h hj hk
      have hM := c_L_asks_0 l hl D cD cC cI cZ cL A σ φ n ad ca f hG (nI j) (nI k) 0 hS1
      rw [et, eτ] at hM
      refine j_lawW B 5 [.ref (ad 0), .int 0, .int (nI j), .int (nI k), .int 0] hM q_305 q_306 q_0 q_307 hdL_asks rfl ⟨Nat.le_of_ble_eq_true rfl, Nat.le_of_ble_eq_true rfl⟩ (Nat.le_of_ble_eq_true rfl) dL_hands_49 rfl (10) (60) ⟨Nat.le_of_ble_eq_true rfl, Nat.le_of_ble_eq_true rfl⟩ ⟨Nat.le_of_ble_eq_true rfl, Nat.le_of_ble_eq_true rfl⟩ (fun r23 _ h24 => ?_)
      rw [h24]
      clear hM h24 r23
      refine j_istore B (L' := [(10, .int t1), (9, .int 0), (8, .int (σ 6 j)), (7, .int (σ 2 j)), (0, .ref (ad 0)), (1, .int 0), (2, .int (nI j)), (3, .int (nI k)), (4, .ref (ca 0)), (5, .ref (ca 1)), (6, .ref (ca 5))]) dL_hands_52 (by decide) rfl ?_
      refine j_iload_n B dL_hands_54 7 rfl rfl ?_
      refine j_iload B dL_hands_55 3 rfl ?_
      refine j_icmp_ne B 87 dL_hands_57 (by decide) (fun h25 => ?_) (fun h25 => ?_)
      · refine j_iload B dL_hands_87 0 rfl ?_
        refine j_iload B dL_hands_89 1 rfl ?_
        refine j_if_eq B 99 dL_hands_91 (by decide) (fun h26 => ?_) (fun h26 => absurd h26 (by decide))
        refine j_bipush B (v := (-8)) dL_hands_99 (by decide) ?_
        refine j_icmp_ne B 151 dL_hands_101 (by decide) (fun h27 => (by clear B hret; grind : False).elim) (fun h27 => ?_)
        refine j_aload_n B dL_hands_104 4 rfl rfl ?_
        refine j_iload_n B dL_hands_105 6 rfl rfl ?_
        refine j_ask B (τ1 6 j) 1 [.int (nI j)] (c_X2_offeredTo l hl D cD cC cI cZ cL (pvA A ca) τ1 n ad hI1.1 (nI j)) (pv_askD hI1.1 (by omega) 6) q_268 q_269 q_270 q_1 q_271 hdX2_offeredTo rfl ⟨Nat.le_of_ble_eq_true rfl, Nat.le_of_ble_eq_true rfl⟩ (Nat.le_of_ble_eq_true rfl) dL_hands_106 rfl (11) (66) ⟨Nat.le_of_ble_eq_true rfl, Nat.le_of_ble_eq_true rfl⟩ ⟨Nat.le_of_ble_eq_true rfl, Nat.le_of_ble_eq_true rfl⟩ ?_
        refine j_iload B dL_hands_109 1 rfl ?_
        refine j_if_eq B 118 dL_hands_111 (by decide) (fun h28 => ?_) (fun h28 => absurd h28 (by decide))
        refine j_iload B dL_hands_118 2 rfl ?_
        refine j_icmp_ne B 151 dL_hands_120 (by decide) (fun h29 => (by clear B hret; grind : False).elim) (fun h29 => ?_)
        refine j_aload_n B dL_hands_123 4 rfl rfl ?_
        refine j_iload_n B dL_hands_124 6 rfl rfl ?_
        refine j_ask B (τ1 2 j) 1 [.int (nI j)] (c_X2_keeperOf l hl D cD cC cI cZ cL (pvA A ca) τ1 n ad hI1.1 (nI j)) (pv_askD hI1.1 (by omega) 2) q_241 q_242 q_243 q_1 q_244 hdX2_keeperOf rfl ⟨Nat.le_of_ble_eq_true rfl, Nat.le_of_ble_eq_true rfl⟩ (Nat.le_of_ble_eq_true rfl) dL_hands_125 rfl (12) (72) ⟨Nat.le_of_ble_eq_true rfl, Nat.le_of_ble_eq_true rfl⟩ ⟨Nat.le_of_ble_eq_true rfl, Nat.le_of_ble_eq_true rfl⟩ ?_
        refine j_iload B dL_hands_128 3 rfl ?_
        refine j_icmp_ne B 151 dL_hands_130 (by decide) (fun h30 => (by clear B hret; grind : False).elim) (fun h30 => ?_)
        refine j_aload_n B dL_hands_133 4 rfl rfl ?_
        refine j_aload B dL_hands_134 8 rfl ?_
        refine j_aload B dL_hands_136 9 rfl ?_
        refine j_lconst B (v := 1) dL_hands_138 (by decide) ?_
        refine j_iload_n B dL_hands_139 6 rfl rfl ?_
        refine j_lshl B dL_hands_140 ?_
        refine j_lawI B 4 [.ref (ad 0), .ref (ca 0), .ref (ca 1), .long ((1 : Int64) <<< ((nI j).toInt64 &&& 63))] (c_L_areSame l hl D cD cC cI cZ cL A τ1 φ n ad ca f hI1.1 (hc0) ((1 : Int64) <<< ((nI j).toInt64 &&& 63)) (pv_same1 (pv_j64 h hj) hd hE1 (fun _ => rfl))) q_429 q_430 q_0 q_431 hdL_areSame rfl ⟨Nat.le_of_ble_eq_true rfl, Nat.le_of_ble_eq_true rfl⟩ (Nat.le_of_ble_eq_true rfl) dL_hands_141 rfl (372) (2232) ⟨Nat.le_of_ble_eq_true rfl, Nat.le_of_ble_eq_true rfl⟩ ⟨Nat.le_of_ble_eq_true rfl, Nat.le_of_ble_eq_true rfl⟩ (fun r31 _ h32 => ?_)
        subst h32
        refine j_if_eq B 151 dL_hands_144 (by decide) (fun h33 => absurd h33 (by decide)) (fun h33 => ?_)
        refine j_iconst B (v := 1) dL_hands_147 (by decide) ?_
        refine j_goto B 152 dL_hands_148 (by decide) ?_
        exact hret 152 _ 1 (τ1, φ, f) (372) (2232) dL_hands_152 rfl (Nat.le_of_ble_eq_true rfl) (Nat.le_of_ble_eq_true rfl) ⟨rfl, pvI_le hI1 (by omega)⟩
      · refine j_iload B dL_hands_60 0 rfl ?_
        refine j_bipush B (v := (-9)) dL_hands_62 (by decide) ?_
        refine j_icmp_ne B 83 dL_hands_64 (by decide) (fun h34 => (by clear B hret; grind : False).elim) (fun h34 => ?_)
        refine j_aload_n B dL_hands_67 4 rfl rfl ?_
        refine j_aload B dL_hands_68 8 rfl ?_
        refine j_aload B dL_hands_70 9 rfl ?_
        refine j_lconst B (v := 0) dL_hands_72 (by decide) ?_
        refine j_lawI B 4 [.ref (ad 0), .ref (ca 0), .ref (ca 1), .long 0] (c_L_areSame l hl D cD cC cI cZ cL A τ1 φ n ad ca f hI1.1 (hc0) 0 (pv_same0 hd ((hA1 (by assumption)).2) (fun _ => rfl))) q_429 q_430 q_0 q_431 hdL_areSame rfl ⟨Nat.le_of_ble_eq_true rfl, Nat.le_of_ble_eq_true rfl⟩ (Nat.le_of_ble_eq_true rfl) dL_hands_73 rfl (370) (2220) ⟨Nat.le_of_ble_eq_true rfl, Nat.le_of_ble_eq_true rfl⟩ ⟨Nat.le_of_ble_eq_true rfl, Nat.le_of_ble_eq_true rfl⟩ (fun r35 _ h36 => ?_)
        subst h36
        refine j_if_eq B 83 dL_hands_76 (by decide) (fun h37 => absurd h37 (by decide)) (fun h37 => ?_)
        refine j_iconst B (v := 1) dL_hands_79 (by decide) ?_
        refine j_goto B 152 dL_hands_80 (by decide) ?_
        exact hret 152 _ 1 (τ1, φ, f) (370) (2220) dL_hands_152 rfl (Nat.le_of_ble_eq_true rfl) (Nat.le_of_ble_eq_true rfl) ⟨rfl, pvI_le hI1 (by omega)⟩
  rcases h3 with ⟨rfl, h38⟩ | ⟨rfl, h38⟩
  · refine j_if_eq B 41 dL_hands_25 (by decide) (fun h39 => absurd h39 (by decide)) (fun h39 => ?_)
    refine j_aload_n B dL_hands_28 2 rfl rfl ?_
    refine j_iload_n B dL_hands_29 4 rfl rfl ?_
    refine j_ask B (σ 3 j) 1 [.int (nI j)] (c_X2_crateOf l hl D cD cC cI cZ cL (pvA A ca) σ n ad hG (nI j)) (pv_askD hG (by omega) 3) q_254 q_255 q_256 q_1 q_257 hdX2_crateOf rfl ⟨Nat.le_of_ble_eq_true rfl, Nat.le_of_ble_eq_true rfl⟩ (Nat.le_of_ble_eq_true rfl) dL_hands_30 rfl (7) (42) ⟨Nat.le_of_ble_eq_true rfl, Nat.le_of_ble_eq_true rfl⟩ ⟨Nat.le_of_ble_eq_true rfl, Nat.le_of_ble_eq_true rfl⟩ ?_
    refine j_iconst B (v := (-1)) dL_hands_33 (by decide) ?_
    refine j_icmp_ne B 41 dL_hands_34 (by decide) (fun h40 => ?_) (fun h40 => ?_)
    · refine j_iconst B (v := 0) dL_hands_41 (by decide) ?_
      exact kj4 0 (Or.inr ⟨rfl, by clear B hret kj4; grind⟩)
    · refine j_iconst B (v := 1) dL_hands_37 (by decide) ?_
      refine j_goto B 42 dL_hands_38 (by decide) ?_
      exact kj4 1 (Or.inl ⟨rfl, by clear B hret kj4; grind⟩)
  · refine j_if_eq B 41 dL_hands_25 (by decide) (fun h41 => ?_) (fun h41 => absurd h41 (by decide))
    refine j_iconst B (v := 0) dL_hands_41 (by decide) ?_
    refine j_widen (k := (7)) (n := (42)) (Nat.le_of_ble_eq_true rfl) (Nat.le_of_ble_eq_true rfl) ?_
    exact kj4 0 (Or.inr ⟨rfl, by clear B hret kj4; grind⟩)
/-- hands_1 -/
abbrev rm_hands_1 : Room := { frames := 10, cells := 366, slots := 2196, locals := 172 }
set_option maxHeartbeats 4000000 in
set_option maxRecDepth 100000 in
theorem c_L_hands_1 (l : Launch) (hl : l.stackTraces = false) (D : va_G) (cD cC cI cZ cL : ClassId) (A : Nat → Prop) (σ φ : pgSt) (n : Nat) (ad ca : Nat → Nat) (f : Nat → Int64) (Bd : Nat) (h : pvI n σ φ (f 0) Bd) (hd : ∀ i, i < n → φ 1 i = pvE σ i) (j : Nat) (hj : j < n) (k : Nat) (hk : k < 8) (hf : σ 6 j ≠ -1) : Met l yL_hands (.code yL_hands cL_hands 13 (some .boolean) :: pgWd) rm_hands_1 (pgPc D (pgTys cD cC cI cZ cL) A (pvW D cD cC cI cL A σ n ad φ ca f) [.ref (ad 0), .int 1, .int (nI j), .int (nI k), .ref (ca 0), .ref (ca 1), .ref (ca 5)]) (va_Qi (fun (r : Int32) (u : pgSt × pgSt × (Nat → Int64)) => r = 1 ∧ pvI n u.1 u.2.1 (u.2.2 0) (Bd + 1)) (fun u t9 => (pvW D cD cC cI cL A u.1 n ad u.2.1 ca u.2.2) t9.heap) A) rm_hands_1.cells rm_hands_1.slots A := by
  refine pv_enter (own := RL) (by decide) rfl (Nat.le_of_ble_eq_true rfl) (fun p e s m args below meth cc9 Q B hret => ?_)
  have hG := h.1
  have hn60 : n ≤ 60 := hG.1
  have hc0 : φ 0 0 = nI n := h.2.1.1
  have hm := h.2.2.2.2.2.2
  have h60 : ¬ σ 6 j < 0 := by
    obtain ⟨q, hq, e6⟩ := ((h.2.2.1 j hj).2.2.1.resolve_left hf).1
    rw [e6]
    exact nI_pos (by omega)
  refine j_aload_n B dL_hands_0 0 rfl rfl ?_
  refine j_iload_n B dL_hands_1 2 rfl rfl ?_
  refine j_ask B (σ 2 j) 1 [.int (nI j)] (c_X2_keeperOf l hl D cD cC cI cZ cL (pvA A ca) σ n ad hG (nI j)) (pv_askD hG (by omega) 2) q_241 q_242 q_243 q_1 q_244 hdX2_keeperOf rfl ⟨Nat.le_of_ble_eq_true rfl, Nat.le_of_ble_eq_true rfl⟩ (Nat.le_of_ble_eq_true rfl) dL_hands_2 rfl (1) (6) ⟨Nat.le_of_ble_eq_true rfl, Nat.le_of_ble_eq_true rfl⟩ ⟨Nat.le_of_ble_eq_true rfl, Nat.le_of_ble_eq_true rfl⟩ ?_
  refine j_istore B (L' := [(7, .int (σ 2 j)), (0, .ref (ad 0)), (1, .int 1), (2, .int (nI j)), (3, .int (nI k)), (4, .ref (ca 0)), (5, .ref (ca 1)), (6, .ref (ca 5))]) dL_hands_5 (by decide) rfl ?_
  refine j_aload_n B dL_hands_7 1 rfl rfl ?_
  refine j_iload_n B dL_hands_8 3 rfl rfl ?_
  refine j_ask B (σ 6 j) 1 [.int (nI j)] (c_X2_offeredTo l hl D cD cC cI cZ cL (pvA A ca) σ n ad hG (nI j)) (pv_askD hG (by omega) 6) q_268 q_269 q_270 q_1 q_271 hdX2_offeredTo rfl ⟨Nat.le_of_ble_eq_true rfl, Nat.le_of_ble_eq_true rfl⟩ (Nat.le_of_ble_eq_true rfl) dL_hands_9 rfl (2) (12) ⟨Nat.le_of_ble_eq_true rfl, Nat.le_of_ble_eq_true rfl⟩ ⟨Nat.le_of_ble_eq_true rfl, Nat.le_of_ble_eq_true rfl⟩ ?_
  refine j_istore B (L' := [(8, .int (σ 6 j)), (7, .int (σ 2 j)), (0, .ref (ad 0)), (1, .int 1), (2, .int (nI j)), (3, .int (nI k)), (4, .ref (ca 0)), (5, .ref (ca 1)), (6, .ref (ca 5))]) dL_hands_12 (by decide) rfl ?_
  refine j_iload_n B dL_hands_14 3 rfl rfl ?_
  refine j_if_ne B 153 dL_hands_15 (by decide) (fun h1 => ?_) (fun h1 => absurd h1 (by decide))
  refine j_iload B dL_hands_153 0 rfl ?_
  refine j_if_lt B 162 dL_hands_155 (by decide) (fun h2 => absurd h2 h60) (fun h2 => ?_)
  refine j_iconst B (v := 1) dL_hands_158 (by decide) ?_
  refine j_goto B 163 dL_hands_159 (by decide) ?_
  refine j_istore B (L' := [(9, .int 1), (8, .int (σ 6 j)), (7, .int (σ 2 j)), (0, .ref (ad 0)), (1, .int 1), (2, .int (nI j)), (3, .int (nI k)), (4, .ref (ca 0)), (5, .ref (ca 1)), (6, .ref (ca 5))]) dL_hands_163 (by decide) rfl ?_
  refine j_iload_n B dL_hands_165 6 rfl rfl ?_
  refine j_iconst B (v := 2) dL_hands_166 (by decide) ?_
  refine j_remv B (nI (k % 2)) (pv_rem (b := 2) (by omega) (by omega) (by omega)) (by decide) dL_hands_167 ?_
  rcases (show k % 2 = 0 ∨ k % 2 = 1 by omega) with e2 | e2
  · rw [e2, show nI 0 = (0 : Int32) from rfl]
    refine j_istore B (L' := [(10, .int 0), (9, .int 1), (8, .int (σ 6 j)), (7, .int (σ 2 j)), (0, .ref (ad 0)), (1, .int 1), (2, .int (nI j)), (3, .int (nI k)), (4, .ref (ca 0)), (5, .ref (ca 1)), (6, .ref (ca 5))]) dL_hands_168 (by decide) rfl ?_
    refine j_aload_n B dL_hands_170 4 rfl rfl ?_
    refine j_iconst B (v := 1) dL_hands_171 (by decide) ?_
    refine j_iload_n B dL_hands_172 6 rfl rfl ?_
    refine j_iload B dL_hands_173 0 rfl ?_
    refine j_iconst B (v := 0) dL_hands_175 (by decide) ?_
    obtain ⟨t1, τ1, et, eτ, hS1, hg1, hI1, hE1, ht1, hx1, hy1⟩ := pv_answer0 h hj hf
    have hM := c_L_asks_1 l hl D cD cC cI cZ cL A σ φ n ad ca f hG (nI j) 0 0 0 (Or.inr ⟨by decide, rfl⟩) hS1
    rw [et, eτ] at hM
    refine j_lawW B 5 [.ref (ad 0), .int 1, .int (nI j), .int 0, .int 0] hM q_305 q_306 q_0 q_307 hdL_asks rfl ⟨Nat.le_of_ble_eq_true rfl, Nat.le_of_ble_eq_true rfl⟩ (Nat.le_of_ble_eq_true rfl) dL_hands_176 rfl (4) (24) ⟨Nat.le_of_ble_eq_true rfl, Nat.le_of_ble_eq_true rfl⟩ ⟨Nat.le_of_ble_eq_true rfl, Nat.le_of_ble_eq_true rfl⟩ (fun r3 _ h4 => ?_)
    rw [h4]
    clear hM h4 r3
    refine j_istore B (L' := [(11, .int t1), (10, .int 0), (9, .int 1), (8, .int (σ 6 j)), (7, .int (σ 2 j)), (0, .ref (ad 0)), (1, .int 1), (2, .int (nI j)), (3, .int (nI k)), (4, .ref (ca 0)), (5, .ref (ca 1)), (6, .ref (ca 5))]) dL_hands_179 (by decide) rfl ?_
    refine j_aload B dL_hands_181 9 rfl ?_
    refine j_iconst B (v := 1) dL_hands_183 (by decide) ?_
    refine j_dup2 B dL_hands_184 rfl rfl ?_
    refine j_pld B (k := 0) (j := 1) (v := φ 0 1) (by omega) rfl (show 1 < 5 by omega) rfl dL_hands_185 ?_
    refine j_iload B dL_hands_186 2 rfl ?_
    refine j_if_eq B 201 dL_hands_188 (by decide) (fun h5 => absurd h5 (by decide)) (fun h5 => ?_)
    refine j_iload B dL_hands_191 1 rfl ?_
    refine j_iconst B (v := 1) dL_hands_193 (by decide) ?_
    refine j_icmp_ne B 201 dL_hands_194 (by decide) (fun h6 => ?_) (fun h6 => absurd h6 (by decide))
    refine j_iconst B (v := 0) dL_hands_201 (by decide) ?_
    refine j_addv B ((φ 0 1) + 0) (rfl) dL_hands_202 ?_
    refine j_pst B (k := 0) (j := 1) (by omega) rfl (show 1 < 5 by omega) dL_hands_203 ?_
    refine j_iload B dL_hands_204 2 rfl ?_
    refine j_if_eq B 220 dL_hands_206 (by decide) (fun h7 => absurd h7 (by decide)) (fun h7 => ?_)
    refine j_iload B dL_hands_209 1 rfl ?_
    refine j_iconst B (v := 1) dL_hands_211 (by decide) ?_
    refine j_icmp_ne B 220 dL_hands_212 (by decide) (fun h8 => ?_) (fun h8 => absurd h8 (by decide))
    refine j_iload B dL_hands_220 4 rfl ?_
    refine j_istore B (L' := [(12, .int (σ 2 j)), (11, .int t1), (10, .int 0), (9, .int 1), (8, .int (σ 6 j)), (7, .int (σ 2 j)), (0, .ref (ad 0)), (1, .int 1), (2, .int (nI j)), (3, .int (nI k)), (4, .ref (ca 0)), (5, .ref (ca 1)), (6, .ref (ca 5))]) dL_hands_222 (by decide) rfl ?_
    refine j_iload B dL_hands_224 1 rfl ?_
    refine j_iload B dL_hands_226 3 rfl ?_
    refine j_if_eq B 236 dL_hands_228 (by decide) (fun h9 => absurd h9 (by decide)) (fun h9 => ?_)
    refine j_iload B dL_hands_231 0 rfl ?_
    refine j_goto B 238 dL_hands_233 (by decide) ?_
    refine j_icmp_ne B 278 dL_hands_238 (by decide) (fun h10 => (by clear B hret; grind : False).elim) (fun h10 => ?_)
    refine j_aload_n B dL_hands_241 6 rfl rfl ?_
    refine j_iload_n B dL_hands_242 8 rfl rfl ?_
    refine j_ask B (τ1 2 j) 1 [.int (nI j)] (c_X2_keeperOf l hl D cD cC cI cZ cL (pvA A ca) τ1 n ad hg1 (nI j)) (pv_askD hg1 (by omega) 2) q_241 q_242 q_243 q_1 q_244 hdX2_keeperOf rfl ⟨Nat.le_of_ble_eq_true rfl, Nat.le_of_ble_eq_true rfl⟩ (Nat.le_of_ble_eq_true rfl) dL_hands_243 rfl (5) (30) ⟨Nat.le_of_ble_eq_true rfl, Nat.le_of_ble_eq_true rfl⟩ ⟨Nat.le_of_ble_eq_true rfl, Nat.le_of_ble_eq_true rfl⟩ ?_
    refine j_iload B dL_hands_246 0 rfl ?_
    refine j_icmp_ne B 278 dL_hands_248 (by decide) (fun h11 => (by clear B hret; grind : False).elim) (fun h11 => ?_)
    refine j_aload_n B dL_hands_251 6 rfl rfl ?_
    refine j_iload_n B dL_hands_252 8 rfl rfl ?_
    refine j_ask B (τ1 6 j) 1 [.int (nI j)] (c_X2_offeredTo l hl D cD cC cI cZ cL (pvA A ca) τ1 n ad hg1 (nI j)) (pv_askD hg1 (by omega) 6) q_268 q_269 q_270 q_1 q_271 hdX2_offeredTo rfl ⟨Nat.le_of_ble_eq_true rfl, Nat.le_of_ble_eq_true rfl⟩ (Nat.le_of_ble_eq_true rfl) dL_hands_253 rfl (6) (36) ⟨Nat.le_of_ble_eq_true rfl, Nat.le_of_ble_eq_true rfl⟩ ⟨Nat.le_of_ble_eq_true rfl, Nat.le_of_ble_eq_true rfl⟩ ?_
    refine j_iconst B (v := (-1)) dL_hands_256 (by decide) ?_
    refine j_icmp_ne B 278 dL_hands_257 (by decide) (fun h12 => (by clear B hret; grind : False).elim) (fun h12 => ?_)
    refine j_aload_n B dL_hands_260 6 rfl rfl ?_
    refine j_aload B dL_hands_261 10 rfl ?_
    refine j_aload B dL_hands_263 11 rfl ?_
    refine j_lconst B (v := 1) dL_hands_265 (by decide) ?_
    refine j_iload_n B dL_hands_266 8 rfl rfl ?_
    refine j_lshl B dL_hands_267 ?_
    refine j_lawI B 4 [.ref (ad 0), .ref (ca 0), .ref (ca 1), .long ((1 : Int64) <<< ((nI j).toInt64 &&& 63))] (c_L_areSame l hl D cD cC cI cZ cL A τ1 (pgU φ 0 1 ((φ 0 1) + 0)) n ad ca f hg1 (by simpa [pgU] using hc0) ((1 : Int64) <<< ((nI j).toInt64 &&& 63)) (pv_same1 (pv_j64 h hj) hd hE1 (fun _ => (by simp [pgU])))) q_429 q_430 q_0 q_431 hdL_areSame rfl ⟨Nat.le_of_ble_eq_true rfl, Nat.le_of_ble_eq_true rfl⟩ (Nat.le_of_ble_eq_true rfl) dL_hands_268 rfl (366) (2196) ⟨Nat.le_of_ble_eq_true rfl, Nat.le_of_ble_eq_true rfl⟩ ⟨Nat.le_of_ble_eq_true rfl, Nat.le_of_ble_eq_true rfl⟩ (fun r13 _ h14 => ?_)
    subst h14
    refine j_if_eq B 278 dL_hands_271 (by decide) (fun h15 => absurd h15 (by decide)) (fun h15 => ?_)
    refine j_iconst B (v := 1) dL_hands_274 (by decide) ?_
    refine j_goto B 279 dL_hands_275 (by decide) ?_
    exact hret 279 _ 1 (τ1, pgU φ 0 1 ((φ 0 1) + 0), f) (366) (2196) dL_hands_279 rfl (Nat.le_of_ble_eq_true rfl) (Nat.le_of_ble_eq_true rfl) ⟨rfl, pvI_le hI1 (by omega)⟩
  · rw [e2, show nI 1 = (1 : Int32) from rfl]
    refine j_istore B (L' := [(10, .int 1), (9, .int 1), (8, .int (σ 6 j)), (7, .int (σ 2 j)), (0, .ref (ad 0)), (1, .int 1), (2, .int (nI j)), (3, .int (nI k)), (4, .ref (ca 0)), (5, .ref (ca 1)), (6, .ref (ca 5))]) dL_hands_168 (by decide) rfl ?_
    refine j_aload_n B dL_hands_170 4 rfl rfl ?_
    refine j_iconst B (v := 1) dL_hands_171 (by decide) ?_
    refine j_iload_n B dL_hands_172 6 rfl rfl ?_
    refine j_iload B dL_hands_173 0 rfl ?_
    refine j_iconst B (v := 0) dL_hands_175 (by decide) ?_
    obtain ⟨t1, τ1, et, eτ, hS1, hg1, hI1, hE1, ht1, hx1, hy1⟩ := pv_answer1 h hj hf
    have hM := c_L_asks_1 l hl D cD cC cI cZ cL A σ φ n ad ca f hG (nI j) 1 0 1 (Or.inl ⟨by decide, rfl⟩) hS1
    rw [et, eτ] at hM
    refine j_lawW B 5 [.ref (ad 0), .int 1, .int (nI j), .int 1, .int 0] hM q_305 q_306 q_0 q_307 hdL_asks rfl ⟨Nat.le_of_ble_eq_true rfl, Nat.le_of_ble_eq_true rfl⟩ (Nat.le_of_ble_eq_true rfl) dL_hands_176 rfl (4) (24) ⟨Nat.le_of_ble_eq_true rfl, Nat.le_of_ble_eq_true rfl⟩ ⟨Nat.le_of_ble_eq_true rfl, Nat.le_of_ble_eq_true rfl⟩ (fun r16 _ h17 => ?_)
    rw [h17]
    clear hM h17 r16
    refine j_istore B (L' := [(11, .int t1), (10, .int 1), (9, .int 1), (8, .int (σ 6 j)), (7, .int (σ 2 j)), (0, .ref (ad 0)), (1, .int 1), (2, .int (nI j)), (3, .int (nI k)), (4, .ref (ca 0)), (5, .ref (ca 1)), (6, .ref (ca 5))]) dL_hands_179 (by decide) rfl ?_
    refine j_aload B dL_hands_181 9 rfl ?_
    refine j_iconst B (v := 1) dL_hands_183 (by decide) ?_
    refine j_dup2 B dL_hands_184 rfl rfl ?_
    refine j_pld B (k := 0) (j := 1) (v := φ 0 1) (by omega) rfl (show 1 < 5 by omega) rfl dL_hands_185 ?_
    refine j_iload B dL_hands_186 2 rfl ?_
    refine j_if_eq B 201 dL_hands_188 (by decide) (fun h18 => absurd h18 (by decide)) (fun h18 => ?_)
    refine j_iload B dL_hands_191 1 rfl ?_
    refine j_iconst B (v := 1) dL_hands_193 (by decide) ?_
    refine j_icmp_ne B 201 dL_hands_194 (by decide) (fun h19 => absurd h19 (by decide)) (fun h19 => ?_)
    refine j_iconst B (v := 1) dL_hands_197 (by decide) ?_
    refine j_goto B 202 dL_hands_198 (by decide) ?_
    refine j_addv B ((φ 0 1) + 1) (rfl) dL_hands_202 ?_
    refine j_pst B (k := 0) (j := 1) (by omega) rfl (show 1 < 5 by omega) dL_hands_203 ?_
    refine j_iload B dL_hands_204 2 rfl ?_
    refine j_if_eq B 220 dL_hands_206 (by decide) (fun h20 => absurd h20 (by decide)) (fun h20 => ?_)
    refine j_iload B dL_hands_209 1 rfl ?_
    refine j_iconst B (v := 1) dL_hands_211 (by decide) ?_
    refine j_icmp_ne B 220 dL_hands_212 (by decide) (fun h21 => absurd h21 (by decide)) (fun h21 => ?_)
    refine j_iload B dL_hands_215 3 rfl ?_
    refine j_goto B 222 dL_hands_217 (by decide) ?_
    refine j_istore B (L' := [(12, .int (σ 6 j)), (11, .int t1), (10, .int 1), (9, .int 1), (8, .int (σ 6 j)), (7, .int (σ 2 j)), (0, .ref (ad 0)), (1, .int 1), (2, .int (nI j)), (3, .int (nI k)), (4, .ref (ca 0)), (5, .ref (ca 1)), (6, .ref (ca 5))]) dL_hands_222 (by decide) rfl ?_
    refine j_iload B dL_hands_224 1 rfl ?_
    refine j_iload B dL_hands_226 3 rfl ?_
    refine j_if_eq B 236 dL_hands_228 (by decide) (fun h22 => absurd h22 (by decide)) (fun h22 => ?_)
    refine j_iload B dL_hands_231 0 rfl ?_
    refine j_goto B 238 dL_hands_233 (by decide) ?_
    refine j_icmp_ne B 278 dL_hands_238 (by decide) (fun h23 => (by clear B hret; grind : False).elim) (fun h23 => ?_)
    refine j_aload_n B dL_hands_241 6 rfl rfl ?_
    refine j_iload_n B dL_hands_242 8 rfl rfl ?_
    refine j_ask B (τ1 2 j) 1 [.int (nI j)] (c_X2_keeperOf l hl D cD cC cI cZ cL (pvA A ca) τ1 n ad hg1 (nI j)) (pv_askD hg1 (by omega) 2) q_241 q_242 q_243 q_1 q_244 hdX2_keeperOf rfl ⟨Nat.le_of_ble_eq_true rfl, Nat.le_of_ble_eq_true rfl⟩ (Nat.le_of_ble_eq_true rfl) dL_hands_243 rfl (5) (30) ⟨Nat.le_of_ble_eq_true rfl, Nat.le_of_ble_eq_true rfl⟩ ⟨Nat.le_of_ble_eq_true rfl, Nat.le_of_ble_eq_true rfl⟩ ?_
    refine j_iload B dL_hands_246 0 rfl ?_
    refine j_icmp_ne B 278 dL_hands_248 (by decide) (fun h24 => (by clear B hret; grind : False).elim) (fun h24 => ?_)
    refine j_aload_n B dL_hands_251 6 rfl rfl ?_
    refine j_iload_n B dL_hands_252 8 rfl rfl ?_
    refine j_ask B (τ1 6 j) 1 [.int (nI j)] (c_X2_offeredTo l hl D cD cC cI cZ cL (pvA A ca) τ1 n ad hg1 (nI j)) (pv_askD hg1 (by omega) 6) q_268 q_269 q_270 q_1 q_271 hdX2_offeredTo rfl ⟨Nat.le_of_ble_eq_true rfl, Nat.le_of_ble_eq_true rfl⟩ (Nat.le_of_ble_eq_true rfl) dL_hands_253 rfl (6) (36) ⟨Nat.le_of_ble_eq_true rfl, Nat.le_of_ble_eq_true rfl⟩ ⟨Nat.le_of_ble_eq_true rfl, Nat.le_of_ble_eq_true rfl⟩ ?_
    refine j_iconst B (v := (-1)) dL_hands_256 (by decide) ?_
    refine j_icmp_ne B 278 dL_hands_257 (by decide) (fun h25 => (by clear B hret; grind : False).elim) (fun h25 => ?_)
    refine j_aload_n B dL_hands_260 6 rfl rfl ?_
    refine j_aload B dL_hands_261 10 rfl ?_
    refine j_aload B dL_hands_263 11 rfl ?_
    refine j_lconst B (v := 1) dL_hands_265 (by decide) ?_
    refine j_iload_n B dL_hands_266 8 rfl rfl ?_
    refine j_lshl B dL_hands_267 ?_
    refine j_lawI B 4 [.ref (ad 0), .ref (ca 0), .ref (ca 1), .long ((1 : Int64) <<< ((nI j).toInt64 &&& 63))] (c_L_areSame l hl D cD cC cI cZ cL A τ1 (pgU φ 0 1 ((φ 0 1) + 1)) n ad ca f hg1 (by simpa [pgU] using hc0) ((1 : Int64) <<< ((nI j).toInt64 &&& 63)) (pv_same1 (pv_j64 h hj) hd hE1 (fun _ => (by simp [pgU])))) q_429 q_430 q_0 q_431 hdL_areSame rfl ⟨Nat.le_of_ble_eq_true rfl, Nat.le_of_ble_eq_true rfl⟩ (Nat.le_of_ble_eq_true rfl) dL_hands_268 rfl (366) (2196) ⟨Nat.le_of_ble_eq_true rfl, Nat.le_of_ble_eq_true rfl⟩ ⟨Nat.le_of_ble_eq_true rfl, Nat.le_of_ble_eq_true rfl⟩ (fun r26 _ h27 => ?_)
    subst h27
    refine j_if_eq B 278 dL_hands_271 (by decide) (fun h28 => absurd h28 (by decide)) (fun h28 => ?_)
    refine j_iconst B (v := 1) dL_hands_274 (by decide) ?_
    refine j_goto B 279 dL_hands_275 (by decide) ?_
    exact hret 279 _ 1 (τ1, pgU φ 0 1 ((φ 0 1) + 1), f) (366) (2196) dL_hands_279 rfl (Nat.le_of_ble_eq_true rfl) (Nat.le_of_ble_eq_true rfl) ⟨rfl, pvI_le hI1 (by omega)⟩
/-- packs_2 -/
abbrev rm_packs_2 : Room := { frames := 10, cells := 433, slots := 2598, locals := 172 }
set_option maxHeartbeats 4000000 in
set_option maxRecDepth 100000 in
theorem c_L_packs_2 (l : Launch) (hl : l.stackTraces = false) (D : va_G) (cD cC cI cZ cL : ClassId) (A : Nat → Prop) (σ φ : pgSt) (n : Nat) (ad ca : Nat → Nat) (f : Nat → Int64) (Bd : Nat) (h : pvI n σ φ (f 0) Bd) (hd : ∀ i, i < n → φ 1 i = pvE σ i) (j : Nat) (hj : j < n) (c : Nat) (hc : c < 4) : Met l yL_packs (.code yL_packs cL_packs 10 (some .boolean) :: pgWd) rm_packs_2 (pgPc D (pgTys cD cC cI cZ cL) A (pvW D cD cC cI cL A σ n ad φ ca f) [.ref (ad 0), .int 2, .int (nI j), .int (nI c), .ref (ca 0), .ref (ca 1), .ref (ca 5)]) (va_Qi (fun (r : Int32) (u : pgSt × pgSt × (Nat → Int64)) => r = 1 ∧ pvI n u.1 u.2.1 (u.2.2 0) (Bd + 1)) (fun u t9 => (pvW D cD cC cI cL A u.1 n ad u.2.1 ca u.2.2) t9.heap) A) rm_packs_2.cells rm_packs_2.slots A := by
  refine pv_enter (own := RL) (by decide) rfl (Nat.le_of_ble_eq_true rfl) (fun p e s m args below meth cc9 Q B hret => ?_)
  have hG := h.1
  have hn60 : n ≤ 60 := hG.1
  have hc0 : φ 0 0 = nI n := h.2.1.1
  have hm := h.2.2.2.2.2.2
  refine j_aload_n B dL_packs_0 0 rfl rfl ?_
  refine j_iload_n B dL_packs_1 2 rfl rfl ?_
  refine j_ask B (σ 3 j) 1 [.int (nI j)] (c_X2_crateOf l hl D cD cC cI cZ cL (pvA A ca) σ n ad hG (nI j)) (pv_askD hG (by omega) 3) q_254 q_255 q_256 q_1 q_257 hdX2_crateOf rfl ⟨Nat.le_of_ble_eq_true rfl, Nat.le_of_ble_eq_true rfl⟩ (Nat.le_of_ble_eq_true rfl) dL_packs_2 rfl (1) (6) ⟨Nat.le_of_ble_eq_true rfl, Nat.le_of_ble_eq_true rfl⟩ ⟨Nat.le_of_ble_eq_true rfl, Nat.le_of_ble_eq_true rfl⟩ ?_
  refine j_istore B (L' := [(7, .int (σ 3 j)), (0, .ref (ad 0)), (1, .int 2), (2, .int (nI j)), (3, .int (nI c)), (4, .ref (ca 0)), (5, .ref (ca 1)), (6, .ref (ca 5))]) dL_packs_5 (by decide) rfl ?_
  refine j_iload_n B dL_packs_7 2 rfl rfl ?_
  refine j_iconst B (v := 2) dL_packs_8 (by decide) ?_
  refine j_icmp_ne B 130 dL_packs_9 (by decide) (fun h1 => absurd h1 (by decide)) (fun h1 => ?_)
  refine j_aload_n B dL_packs_12 1 rfl rfl ?_
  refine j_aload B dL_packs_13 7 rfl ?_
  refine j_iload_n B dL_packs_15 3 rfl rfl ?_
  refine j_lawI B 3 [.ref (ad 0), .ref (ca 5), .int (nI j)] (c_L_isFree l hl D cD cC cI cZ cL A σ φ n ad ca f hG j (by omega) (hm j (by omega))) q_287 q_288 q_0 q_289 hdL_isFree rfl ⟨Nat.le_of_ble_eq_true rfl, Nat.le_of_ble_eq_true rfl⟩ (Nat.le_of_ble_eq_true rfl) dL_packs_16 rfl (5) (30) ⟨Nat.le_of_ble_eq_true rfl, Nat.le_of_ble_eq_true rfl⟩ ⟨Nat.le_of_ble_eq_true rfl, Nat.le_of_ble_eq_true rfl⟩ (fun r2 _ h3 => ?_)
  have kj4 : ∀ v5 : Int32, (v5 = 1 ∧ (pgReach σ j ∧ σ 3 j = -1 ∧ σ 11 c = -1 ∧ σ 10 c = σ 2 j) ∨ v5 = 0 ∧ ¬ (pgReach σ j ∧ σ 3 j = -1 ∧ σ 11 c = -1 ∧ σ 10 c = σ 2 j)) → pgJ p l e rm_packs_2 s m args below meth cc9 10 A (pvW D cD cC cI cL A σ n ad φ ca f) (8) (48) Q 55 [(7, .int (σ 3 j)), (0, .ref (ad 0)), (1, .int 2), (2, .int (nI j)), (3, .int (nI c)), (4, .ref (ca 0)), (5, .ref (ca 1)), (6, .ref (ca 5))] (.int v5 :: []) := by
    intro v5 hv6
    rcases hv6 with ⟨rfl, h7⟩ | ⟨rfl, h7⟩
    · refine j_istore B (L' := [(8, .int 1), (7, .int (σ 3 j)), (0, .ref (ad 0)), (1, .int 2), (2, .int (nI j)), (3, .int (nI c)), (4, .ref (ca 0)), (5, .ref (ca 1)), (6, .ref (ca 5))]) dL_packs_55 (by decide) rfl ?_
      refine j_aload_n B dL_packs_57 2 rfl rfl ?_
      refine j_aload B dL_packs_58 6 rfl ?_
      refine j_iload_n B dL_packs_60 5 rfl rfl ?_
      refine j_lawI B 3 [.ref (ad 0), .ref (ca 0), .int (nI c)] (c_L_countIn l hl D cD cC cI cZ cL A σ φ n ad ca f hG (hc0) (nI c)) q_439 q_440 q_0 q_441 hdL_countIn rfl ⟨Nat.le_of_ble_eq_true rfl, Nat.le_of_ble_eq_true rfl⟩ (Nat.le_of_ble_eq_true rfl) dL_packs_61 rfl (68) (408) ⟨Nat.le_of_ble_eq_true rfl, Nat.le_of_ble_eq_true rfl⟩ ⟨Nat.le_of_ble_eq_true rfl, Nat.le_of_ble_eq_true rfl⟩ (fun r8 _ h9 => ?_)
      subst h9
      refine j_istore B (L' := [(9, .int (pgCnt σ n (nI c))), (8, .int 1), (7, .int (σ 3 j)), (0, .ref (ad 0)), (1, .int 2), (2, .int (nI j)), (3, .int (nI c)), (4, .ref (ca 0)), (5, .ref (ca 1)), (6, .ref (ca 5))]) dL_packs_64 (by decide) rfl ?_
      refine j_aload_n B dL_packs_66 3 rfl rfl ?_
      refine j_iconst B (v := 2) dL_packs_67 (by decide) ?_
      refine j_iload_n B dL_packs_68 5 rfl rfl ?_
      refine j_iload_n B dL_packs_69 6 rfl rfl ?_
      refine j_iconst B (v := 0) dL_packs_70 (by decide) ?_
      obtain ⟨t1, τ1, et, eτ, hS1, hI1, hE1, hA1, hB1⟩ := pv_pack h hj (show c < 10 by omega)
      have hM := c_L_asks_2 l hl D cD cC cI cZ cL A σ φ n ad ca f hG (nI j) (nI c) 0 hS1
      rw [et, eτ] at hM
      refine j_lawW B 5 [.ref (ad 0), .int 2, .int (nI j), .int (nI c), .int 0] hM q_305 q_306 q_0 q_307 hdL_asks rfl ⟨Nat.le_of_ble_eq_true rfl, Nat.le_of_ble_eq_true rfl⟩ (Nat.le_of_ble_eq_true rfl) dL_packs_71 rfl (72) (432) ⟨Nat.le_of_ble_eq_true rfl, Nat.le_of_ble_eq_true rfl⟩ ⟨Nat.le_of_ble_eq_true rfl, Nat.le_of_ble_eq_true rfl⟩ (fun r10 _ h11 => ?_)
      rw [h11]
      clear hM h11 r10
      refine j_iload B dL_packs_74 1 rfl ?_
      refine j_if_eq B 86 dL_packs_76 (by decide) (fun h12 => absurd h12 (by decide)) (fun h12 => ?_)
      refine j_iload B dL_packs_79 0 rfl ?_
      refine j_iconst B (v := 1) dL_packs_81 (by decide) ?_
      refine j_addv B ((pgCnt σ n (nI c)) + 1) (rfl) dL_packs_82 ?_
      refine j_goto B 88 dL_packs_83 (by decide) ?_
      refine j_icmp_ne B 128 dL_packs_88 (by decide) (fun h13 => (by clear B hret; grind : False).elim) (fun h13 => ?_)
      refine j_aload_n B dL_packs_91 3 rfl rfl ?_
      refine j_iload_n B dL_packs_92 5 rfl rfl ?_
      refine j_ask B (τ1 3 j) 1 [.int (nI j)] (c_X2_crateOf l hl D cD cC cI cZ cL (pvA A ca) τ1 n ad hI1.1 (nI j)) (pv_askD hI1.1 (by omega) 3) q_254 q_255 q_256 q_1 q_257 hdX2_crateOf rfl ⟨Nat.le_of_ble_eq_true rfl, Nat.le_of_ble_eq_true rfl⟩ (Nat.le_of_ble_eq_true rfl) dL_packs_93 rfl (73) (438) ⟨Nat.le_of_ble_eq_true rfl, Nat.le_of_ble_eq_true rfl⟩ ⟨Nat.le_of_ble_eq_true rfl, Nat.le_of_ble_eq_true rfl⟩ ?_
      refine j_iload B dL_packs_96 1 rfl ?_
      refine j_if_eq B 105 dL_packs_98 (by decide) (fun h14 => absurd h14 (by decide)) (fun h14 => ?_)
      refine j_iload_n B dL_packs_101 6 rfl rfl ?_
      refine j_goto B 107 dL_packs_102 (by decide) ?_
      refine j_icmp_ne B 128 dL_packs_107 (by decide) (fun h15 => (by clear B hret; grind : False).elim) (fun h15 => ?_)
      refine j_aload_n B dL_packs_110 3 rfl rfl ?_
      refine j_aload B dL_packs_111 7 rfl ?_
      refine j_aload B dL_packs_113 8 rfl ?_
      refine j_lconst B (v := 1) dL_packs_115 (by decide) ?_
      refine j_iload_n B dL_packs_116 5 rfl rfl ?_
      refine j_lshl B dL_packs_117 ?_
      refine j_lawI B 4 [.ref (ad 0), .ref (ca 0), .ref (ca 1), .long ((1 : Int64) <<< ((nI j).toInt64 &&& 63))] (c_L_areSame l hl D cD cC cI cZ cL A τ1 φ n ad ca f hI1.1 (hc0) ((1 : Int64) <<< ((nI j).toInt64 &&& 63)) (pv_same1 (pv_j64 h hj) hd hE1 (fun _ => rfl))) q_429 q_430 q_0 q_431 hdL_areSame rfl ⟨Nat.le_of_ble_eq_true rfl, Nat.le_of_ble_eq_true rfl⟩ (Nat.le_of_ble_eq_true rfl) dL_packs_118 rfl (433) (2598) ⟨Nat.le_of_ble_eq_true rfl, Nat.le_of_ble_eq_true rfl⟩ ⟨Nat.le_of_ble_eq_true rfl, Nat.le_of_ble_eq_true rfl⟩ (fun r16 _ h17 => ?_)
      subst h17
      refine j_if_eq B 128 dL_packs_121 (by decide) (fun h18 => absurd h18 (by decide)) (fun h18 => ?_)
      refine j_iconst B (v := 1) dL_packs_124 (by decide) ?_
      refine j_goto B 129 dL_packs_125 (by decide) ?_
      exact hret 129 _ 1 (τ1, φ, f) (433) (2598) dL_packs_129 rfl (Nat.le_of_ble_eq_true rfl) (Nat.le_of_ble_eq_true rfl) ⟨rfl, pvI_le hI1 (by omega)⟩
    · refine j_istore B (L' := [(8, .int 0), (7, .int (σ 3 j)), (0, .ref (ad 0)), (1, .int 2), (2, .int (nI j)), (3, .int (nI c)), (4, .ref (ca 0)), (5, .ref (ca 1)), (6, .ref (ca 5))]) dL_packs_55 (by decide) rfl ?_
      refine j_aload_n B dL_packs_57 2 rfl rfl ?_
      refine j_aload B dL_packs_58 6 rfl ?_
      refine j_iload_n B dL_packs_60 5 rfl rfl ?_
      refine j_lawI B 3 [.ref (ad 0), .ref (ca 0), .int (nI c)] (c_L_countIn l hl D cD cC cI cZ cL A σ φ n ad ca f hG (hc0) (nI c)) q_439 q_440 q_0 q_441 hdL_countIn rfl ⟨Nat.le_of_ble_eq_true rfl, Nat.le_of_ble_eq_true rfl⟩ (Nat.le_of_ble_eq_true rfl) dL_packs_61 rfl (68) (408) ⟨Nat.le_of_ble_eq_true rfl, Nat.le_of_ble_eq_true rfl⟩ ⟨Nat.le_of_ble_eq_true rfl, Nat.le_of_ble_eq_true rfl⟩ (fun r19 _ h20 => ?_)
      subst h20
      refine j_istore B (L' := [(9, .int (pgCnt σ n (nI c))), (8, .int 0), (7, .int (σ 3 j)), (0, .ref (ad 0)), (1, .int 2), (2, .int (nI j)), (3, .int (nI c)), (4, .ref (ca 0)), (5, .ref (ca 1)), (6, .ref (ca 5))]) dL_packs_64 (by decide) rfl ?_
      refine j_aload_n B dL_packs_66 3 rfl rfl ?_
      refine j_iconst B (v := 2) dL_packs_67 (by decide) ?_
      refine j_iload_n B dL_packs_68 5 rfl rfl ?_
      refine j_iload_n B dL_packs_69 6 rfl rfl ?_
      refine j_iconst B (v := 0) dL_packs_70 (by decide) ?_
      obtain ⟨t1, τ1, et, eτ, hS1, hI1, hE1, hA1, hB1⟩ := pv_pack h hj (show c < 10 by omega)
      have hM := c_L_asks_2 l hl D cD cC cI cZ cL A σ φ n ad ca f hG (nI j) (nI c) 0 hS1
      rw [et, eτ] at hM
      refine j_lawW B 5 [.ref (ad 0), .int 2, .int (nI j), .int (nI c), .int 0] hM q_305 q_306 q_0 q_307 hdL_asks rfl ⟨Nat.le_of_ble_eq_true rfl, Nat.le_of_ble_eq_true rfl⟩ (Nat.le_of_ble_eq_true rfl) dL_packs_71 rfl (72) (432) ⟨Nat.le_of_ble_eq_true rfl, Nat.le_of_ble_eq_true rfl⟩ ⟨Nat.le_of_ble_eq_true rfl, Nat.le_of_ble_eq_true rfl⟩ (fun r21 _ h22 => ?_)
      rw [h22]
      clear hM h22 r21
      refine j_iload B dL_packs_74 1 rfl ?_
      refine j_if_eq B 86 dL_packs_76 (by decide) (fun h23 => ?_) (fun h23 => absurd h23 (by decide))
      refine j_bipush B (v := (-8)) dL_packs_86 (by decide) ?_
      refine j_icmp_ne B 128 dL_packs_88 (by decide) (fun h24 => (by clear B hret; grind : False).elim) (fun h24 => ?_)
      refine j_aload_n B dL_packs_91 3 rfl rfl ?_
      refine j_iload_n B dL_packs_92 5 rfl rfl ?_
      refine j_ask B (τ1 3 j) 1 [.int (nI j)] (c_X2_crateOf l hl D cD cC cI cZ cL (pvA A ca) τ1 n ad hI1.1 (nI j)) (pv_askD hI1.1 (by omega) 3) q_254 q_255 q_256 q_1 q_257 hdX2_crateOf rfl ⟨Nat.le_of_ble_eq_true rfl, Nat.le_of_ble_eq_true rfl⟩ (Nat.le_of_ble_eq_true rfl) dL_packs_93 rfl (73) (438) ⟨Nat.le_of_ble_eq_true rfl, Nat.le_of_ble_eq_true rfl⟩ ⟨Nat.le_of_ble_eq_true rfl, Nat.le_of_ble_eq_true rfl⟩ ?_
      refine j_iload B dL_packs_96 1 rfl ?_
      refine j_if_eq B 105 dL_packs_98 (by decide) (fun h25 => ?_) (fun h25 => absurd h25 (by decide))
      refine j_iload B dL_packs_105 2 rfl ?_
      refine j_icmp_ne B 128 dL_packs_107 (by decide) (fun h26 => (by clear B hret; grind : False).elim) (fun h26 => ?_)
      refine j_aload_n B dL_packs_110 3 rfl rfl ?_
      refine j_aload B dL_packs_111 7 rfl ?_
      refine j_aload B dL_packs_113 8 rfl ?_
      refine j_lconst B (v := 1) dL_packs_115 (by decide) ?_
      refine j_iload_n B dL_packs_116 5 rfl rfl ?_
      refine j_lshl B dL_packs_117 ?_
      refine j_lawI B 4 [.ref (ad 0), .ref (ca 0), .ref (ca 1), .long ((1 : Int64) <<< ((nI j).toInt64 &&& 63))] (c_L_areSame l hl D cD cC cI cZ cL A τ1 φ n ad ca f hI1.1 (hc0) ((1 : Int64) <<< ((nI j).toInt64 &&& 63)) (pv_same1 (pv_j64 h hj) hd hE1 (fun _ => rfl))) q_429 q_430 q_0 q_431 hdL_areSame rfl ⟨Nat.le_of_ble_eq_true rfl, Nat.le_of_ble_eq_true rfl⟩ (Nat.le_of_ble_eq_true rfl) dL_packs_118 rfl (433) (2598) ⟨Nat.le_of_ble_eq_true rfl, Nat.le_of_ble_eq_true rfl⟩ ⟨Nat.le_of_ble_eq_true rfl, Nat.le_of_ble_eq_true rfl⟩ (fun r27 _ h28 => ?_)
      subst h28
      refine j_if_eq B 128 dL_packs_121 (by decide) (fun h29 => absurd h29 (by decide)) (fun h29 => ?_)
      refine j_iconst B (v := 1) dL_packs_124 (by decide) ?_
      refine j_goto B 129 dL_packs_125 (by decide) ?_
      exact hret 129 _ 1 (τ1, φ, f) (433) (2598) dL_packs_129 rfl (Nat.le_of_ble_eq_true rfl) (Nat.le_of_ble_eq_true rfl) ⟨rfl, pvI_le hI1 (by omega)⟩
  rcases h3 with ⟨rfl, h30⟩ | ⟨rfl, h30⟩
  · refine j_if_eq B 54 dL_packs_19 (by decide) (fun h31 => absurd h31 (by decide)) (fun h31 => ?_)
    refine j_iload B dL_packs_22 0 rfl ?_
    refine j_iconst B (v := (-1)) dL_packs_24 (by decide) ?_
    refine j_icmp_ne B 54 dL_packs_25 (by decide) (fun h32 => ?_) (fun h32 => ?_)
    · refine j_iconst B (v := 0) dL_packs_54 (by decide) ?_
      refine j_widen (k := (8)) (n := (48)) (Nat.le_of_ble_eq_true rfl) (Nat.le_of_ble_eq_true rfl) ?_
      exact kj4 0 (Or.inr ⟨rfl, by clear B hret kj4; grind⟩)
    · refine j_aload_n B dL_packs_28 1 rfl rfl ?_
      refine j_iload_n B dL_packs_29 4 rfl rfl ?_
      refine j_ask B (σ 11 c) 1 [.int (nI c)] (c_X2_sealOf l hl D cD cC cI cZ cL (pvA A ca) σ n ad hG (nI c)) (pv_askC (by omega) 11) q_296 q_297 q_298 q_1 q_299 hdX2_sealOf rfl ⟨Nat.le_of_ble_eq_true rfl, Nat.le_of_ble_eq_true rfl⟩ (Nat.le_of_ble_eq_true rfl) dL_packs_30 rfl (6) (36) ⟨Nat.le_of_ble_eq_true rfl, Nat.le_of_ble_eq_true rfl⟩ ⟨Nat.le_of_ble_eq_true rfl, Nat.le_of_ble_eq_true rfl⟩ ?_
      refine j_iconst B (v := (-1)) dL_packs_33 (by decide) ?_
      refine j_icmp_ne B 54 dL_packs_34 (by decide) (fun h33 => ?_) (fun h33 => ?_)
      · refine j_iconst B (v := 0) dL_packs_54 (by decide) ?_
        refine j_widen (k := (8)) (n := (48)) (Nat.le_of_ble_eq_true rfl) (Nat.le_of_ble_eq_true rfl) ?_
        exact kj4 0 (Or.inr ⟨rfl, by clear B hret kj4; grind⟩)
      · refine j_aload_n B dL_packs_37 1 rfl rfl ?_
        refine j_iload_n B dL_packs_38 4 rfl rfl ?_
        refine j_ask B (σ 10 c) 1 [.int (nI c)] (c_X2_crateKeeper l hl D cD cC cI cZ cL (pvA A ca) σ n ad hG (nI c)) (pv_askC (by omega) 10) q_435 q_436 q_437 q_1 q_438 hdX2_crateKeeper rfl ⟨Nat.le_of_ble_eq_true rfl, Nat.le_of_ble_eq_true rfl⟩ (Nat.le_of_ble_eq_true rfl) dL_packs_39 rfl (7) (42) ⟨Nat.le_of_ble_eq_true rfl, Nat.le_of_ble_eq_true rfl⟩ ⟨Nat.le_of_ble_eq_true rfl, Nat.le_of_ble_eq_true rfl⟩ ?_
        refine j_aload_n B dL_packs_42 1 rfl rfl ?_
        refine j_iload_n B dL_packs_43 3 rfl rfl ?_
        refine j_ask B (σ 2 j) 1 [.int (nI j)] (c_X2_keeperOf l hl D cD cC cI cZ cL (pvA A ca) σ n ad hG (nI j)) (pv_askD hG (by omega) 2) q_241 q_242 q_243 q_1 q_244 hdX2_keeperOf rfl ⟨Nat.le_of_ble_eq_true rfl, Nat.le_of_ble_eq_true rfl⟩ (Nat.le_of_ble_eq_true rfl) dL_packs_44 rfl (8) (48) ⟨Nat.le_of_ble_eq_true rfl, Nat.le_of_ble_eq_true rfl⟩ ⟨Nat.le_of_ble_eq_true rfl, Nat.le_of_ble_eq_true rfl⟩ ?_
        refine j_icmp_ne B 54 dL_packs_47 (by decide) (fun h34 => ?_) (fun h34 => ?_)
        · refine j_iconst B (v := 0) dL_packs_54 (by decide) ?_
          exact kj4 0 (Or.inr ⟨rfl, by clear B hret kj4; grind⟩)
        · refine j_iconst B (v := 1) dL_packs_50 (by decide) ?_
          refine j_goto B 55 dL_packs_51 (by decide) ?_
          exact kj4 1 (Or.inl ⟨rfl, by clear B hret kj4; grind⟩)
  · refine j_if_eq B 54 dL_packs_19 (by decide) (fun h35 => ?_) (fun h35 => absurd h35 (by decide))
    refine j_iconst B (v := 0) dL_packs_54 (by decide) ?_
    refine j_widen (k := (8)) (n := (48)) (Nat.le_of_ble_eq_true rfl) (Nat.le_of_ble_eq_true rfl) ?_
    exact kj4 0 (Or.inr ⟨rfl, by clear B hret kj4; grind⟩)
/-- packs_3 -/
abbrev rm_packs_3 : Room := { frames := 10, cells := 370, slots := 2220, locals := 172 }
set_option maxHeartbeats 4000000 in
set_option maxRecDepth 100000 in
theorem c_L_packs_3 (l : Launch) (hl : l.stackTraces = false) (D : va_G) (cD cC cI cZ cL : ClassId) (A : Nat → Prop) (σ φ : pgSt) (n : Nat) (ad ca : Nat → Nat) (f : Nat → Int64) (Bd : Nat) (h : pvI n σ φ (f 0) Bd) (hd : ∀ i, i < n → φ 1 i = pvE σ i) (j : Nat) (hj : j < n) (x : Int32) : Met l yL_packs (.code yL_packs cL_packs 10 (some .boolean) :: pgWd) rm_packs_3 (pgPc D (pgTys cD cC cI cZ cL) A (pvW D cD cC cI cL A σ n ad φ ca f) [.ref (ad 0), .int 3, .int (nI j), .int x, .ref (ca 0), .ref (ca 1), .ref (ca 5)]) (va_Qi (fun (r : Int32) (u : pgSt × pgSt × (Nat → Int64)) => r = 1 ∧ pvI n u.1 u.2.1 (u.2.2 0) (Bd + 1)) (fun u t9 => (pvW D cD cC cI cL A u.1 n ad u.2.1 ca u.2.2) t9.heap) A) rm_packs_3.cells rm_packs_3.slots A := by
  refine pv_enter (own := RL) (by decide) rfl (Nat.le_of_ble_eq_true rfl) (fun p e s m args below meth cc9 Q B hret => ?_)
  have hG := h.1
  have hn60 : n ≤ 60 := hG.1
  have hc0 : φ 0 0 = nI n := h.2.1.1
  have hm := h.2.2.2.2.2.2
  have hcr := pv_cr hG hj
  have hmj := hm j (by omega)
  refine j_aload_n B dL_packs_0 0 rfl rfl ?_
  refine j_iload_n B dL_packs_1 2 rfl rfl ?_
  refine j_ask B (σ 3 j) 1 [.int (nI j)] (c_X2_crateOf l hl D cD cC cI cZ cL (pvA A ca) σ n ad hG (nI j)) (pv_askD hG (by omega) 3) q_254 q_255 q_256 q_1 q_257 hdX2_crateOf rfl ⟨Nat.le_of_ble_eq_true rfl, Nat.le_of_ble_eq_true rfl⟩ (Nat.le_of_ble_eq_true rfl) dL_packs_2 rfl (1) (6) ⟨Nat.le_of_ble_eq_true rfl, Nat.le_of_ble_eq_true rfl⟩ ⟨Nat.le_of_ble_eq_true rfl, Nat.le_of_ble_eq_true rfl⟩ ?_
  refine j_istore B (L' := [(7, .int (σ 3 j)), (0, .ref (ad 0)), (1, .int 3), (2, .int (nI j)), (3, .int x), (4, .ref (ca 0)), (5, .ref (ca 1)), (6, .ref (ca 5))]) dL_packs_5 (by decide) rfl ?_
  refine j_iload_n B dL_packs_7 2 rfl rfl ?_
  refine j_iconst B (v := 2) dL_packs_8 (by decide) ?_
  refine j_icmp_ne B 130 dL_packs_9 (by decide) (fun h1 => ?_) (fun h1 => absurd h1 (by decide))
  refine j_iload B dL_packs_130 0 rfl ?_
  have kj2 : ∀ v3 : Int32, (v3 = 1 ∧ (σ 3 j ≠ -1 ∧ σ 5 j = 0 ∧ ¬ pgShut σ j) ∨ v3 = 0 ∧ ¬ (σ 3 j ≠ -1 ∧ σ 5 j = 0 ∧ ¬ pgShut σ j)) → pgJ p l e rm_packs_3 s m args below meth cc9 10 A (pvW D cD cC cI cL A σ n ad φ ca f) (7) (42) Q 157 [(7, .int (σ 3 j)), (0, .ref (ad 0)), (1, .int 3), (2, .int (nI j)), (3, .int x), (4, .ref (ca 0)), (5, .ref (ca 1)), (6, .ref (ca 5))] (.int v3 :: []) := by
    intro v3 hv4
    rcases hv4 with ⟨rfl, h5⟩ | ⟨rfl, h5⟩
    · refine j_istore B (L' := [(8, .int 1), (7, .int (σ 3 j)), (0, .ref (ad 0)), (1, .int 3), (2, .int (nI j)), (3, .int x), (4, .ref (ca 0)), (5, .ref (ca 1)), (6, .ref (ca 5))]) dL_packs_157 (by decide) rfl ?_
      refine j_aload_n B dL_packs_159 2 rfl rfl ?_
      refine j_iconst B (v := 3) dL_packs_160 (by decide) ?_
      refine j_iload_n B dL_packs_161 4 rfl rfl ?_
      refine j_iconst B (v := 0) dL_packs_162 (by decide) ?_
      refine j_iconst B (v := 0) dL_packs_163 (by decide) ?_
      obtain ⟨t1, τ1, et, eτ, hS1, hI1, hE1, hA1, hB1⟩ := pv_unpack h hj
      have hM := c_L_asks_3 l hl D cD cC cI cZ cL A σ φ n ad ca f hG (nI j) 0 0 hS1
      rw [et, eτ] at hM
      refine j_lawW B 5 [.ref (ad 0), .int 3, .int (nI j), .int 0, .int 0] hM q_305 q_306 q_0 q_307 hdL_asks rfl ⟨Nat.le_of_ble_eq_true rfl, Nat.le_of_ble_eq_true rfl⟩ (Nat.le_of_ble_eq_true rfl) dL_packs_164 rfl (9) (54) ⟨Nat.le_of_ble_eq_true rfl, Nat.le_of_ble_eq_true rfl⟩ ⟨Nat.le_of_ble_eq_true rfl, Nat.le_of_ble_eq_true rfl⟩ (fun r6 _ h7 => ?_)
      rw [h7]
      clear hM h7 r6
      refine j_iload B dL_packs_167 0 rfl ?_
      refine j_if_eq B 177 dL_packs_169 (by decide) (fun h8 => absurd h8 (by decide)) (fun h8 => ?_)
      refine j_iload B dL_packs_172 1 rfl ?_
      refine j_goto B 179 dL_packs_174 (by decide) ?_
      refine j_icmp_ne B 219 dL_packs_179 (by decide) (fun h9 => (by clear B hret; grind : False).elim) (fun h9 => ?_)
      refine j_aload_n B dL_packs_182 2 rfl rfl ?_
      refine j_iload_n B dL_packs_183 4 rfl rfl ?_
      refine j_ask B (τ1 3 j) 1 [.int (nI j)] (c_X2_crateOf l hl D cD cC cI cZ cL (pvA A ca) τ1 n ad hI1.1 (nI j)) (pv_askD hI1.1 (by omega) 3) q_254 q_255 q_256 q_1 q_257 hdX2_crateOf rfl ⟨Nat.le_of_ble_eq_true rfl, Nat.le_of_ble_eq_true rfl⟩ (Nat.le_of_ble_eq_true rfl) dL_packs_184 rfl (10) (60) ⟨Nat.le_of_ble_eq_true rfl, Nat.le_of_ble_eq_true rfl⟩ ⟨Nat.le_of_ble_eq_true rfl, Nat.le_of_ble_eq_true rfl⟩ ?_
      refine j_iload B dL_packs_187 0 rfl ?_
      refine j_if_eq B 196 dL_packs_189 (by decide) (fun h10 => absurd h10 (by decide)) (fun h10 => ?_)
      refine j_iconst B (v := (-1)) dL_packs_192 (by decide) ?_
      refine j_goto B 198 dL_packs_193 (by decide) ?_
      refine j_icmp_ne B 219 dL_packs_198 (by decide) (fun h11 => (by clear B hret; grind : False).elim) (fun h11 => ?_)
      refine j_aload_n B dL_packs_201 2 rfl rfl ?_
      refine j_aload B dL_packs_202 6 rfl ?_
      refine j_aload B dL_packs_204 7 rfl ?_
      refine j_lconst B (v := 1) dL_packs_206 (by decide) ?_
      refine j_iload_n B dL_packs_207 4 rfl rfl ?_
      refine j_lshl B dL_packs_208 ?_
      refine j_lawI B 4 [.ref (ad 0), .ref (ca 0), .ref (ca 1), .long ((1 : Int64) <<< ((nI j).toInt64 &&& 63))] (c_L_areSame l hl D cD cC cI cZ cL A τ1 φ n ad ca f hI1.1 (hc0) ((1 : Int64) <<< ((nI j).toInt64 &&& 63)) (pv_same1 (pv_j64 h hj) hd hE1 (fun _ => rfl))) q_429 q_430 q_0 q_431 hdL_areSame rfl ⟨Nat.le_of_ble_eq_true rfl, Nat.le_of_ble_eq_true rfl⟩ (Nat.le_of_ble_eq_true rfl) dL_packs_209 rfl (370) (2220) ⟨Nat.le_of_ble_eq_true rfl, Nat.le_of_ble_eq_true rfl⟩ ⟨Nat.le_of_ble_eq_true rfl, Nat.le_of_ble_eq_true rfl⟩ (fun r12 _ h13 => ?_)
      subst h13
      refine j_if_eq B 219 dL_packs_212 (by decide) (fun h14 => absurd h14 (by decide)) (fun h14 => ?_)
      refine j_iconst B (v := 1) dL_packs_215 (by decide) ?_
      refine j_goto B 220 dL_packs_216 (by decide) ?_
      exact hret 220 _ 1 (τ1, φ, f) (370) (2220) dL_packs_220 rfl (Nat.le_of_ble_eq_true rfl) (Nat.le_of_ble_eq_true rfl) ⟨rfl, pvI_le hI1 (by omega)⟩
    · refine j_istore B (L' := [(8, .int 0), (7, .int (σ 3 j)), (0, .ref (ad 0)), (1, .int 3), (2, .int (nI j)), (3, .int x), (4, .ref (ca 0)), (5, .ref (ca 1)), (6, .ref (ca 5))]) dL_packs_157 (by decide) rfl ?_
      refine j_aload_n B dL_packs_159 2 rfl rfl ?_
      refine j_iconst B (v := 3) dL_packs_160 (by decide) ?_
      refine j_iload_n B dL_packs_161 4 rfl rfl ?_
      refine j_iconst B (v := 0) dL_packs_162 (by decide) ?_
      refine j_iconst B (v := 0) dL_packs_163 (by decide) ?_
      obtain ⟨t1, τ1, et, eτ, hS1, hI1, hE1, hA1, hB1⟩ := pv_unpack h hj
      have hM := c_L_asks_3 l hl D cD cC cI cZ cL A σ φ n ad ca f hG (nI j) 0 0 hS1
      rw [et, eτ] at hM
      refine j_lawW B 5 [.ref (ad 0), .int 3, .int (nI j), .int 0, .int 0] hM q_305 q_306 q_0 q_307 hdL_asks rfl ⟨Nat.le_of_ble_eq_true rfl, Nat.le_of_ble_eq_true rfl⟩ (Nat.le_of_ble_eq_true rfl) dL_packs_164 rfl (9) (54) ⟨Nat.le_of_ble_eq_true rfl, Nat.le_of_ble_eq_true rfl⟩ ⟨Nat.le_of_ble_eq_true rfl, Nat.le_of_ble_eq_true rfl⟩ (fun r15 _ h16 => ?_)
      rw [h16]
      clear hM h16 r15
      refine j_iload B dL_packs_167 0 rfl ?_
      refine j_if_eq B 177 dL_packs_169 (by decide) (fun h17 => ?_) (fun h17 => absurd h17 (by decide))
      refine j_bipush B (v := (-8)) dL_packs_177 (by decide) ?_
      refine j_icmp_ne B 219 dL_packs_179 (by decide) (fun h18 => (by clear B hret; grind : False).elim) (fun h18 => ?_)
      refine j_aload_n B dL_packs_182 2 rfl rfl ?_
      refine j_iload_n B dL_packs_183 4 rfl rfl ?_
      refine j_ask B (τ1 3 j) 1 [.int (nI j)] (c_X2_crateOf l hl D cD cC cI cZ cL (pvA A ca) τ1 n ad hI1.1 (nI j)) (pv_askD hI1.1 (by omega) 3) q_254 q_255 q_256 q_1 q_257 hdX2_crateOf rfl ⟨Nat.le_of_ble_eq_true rfl, Nat.le_of_ble_eq_true rfl⟩ (Nat.le_of_ble_eq_true rfl) dL_packs_184 rfl (10) (60) ⟨Nat.le_of_ble_eq_true rfl, Nat.le_of_ble_eq_true rfl⟩ ⟨Nat.le_of_ble_eq_true rfl, Nat.le_of_ble_eq_true rfl⟩ ?_
      refine j_iload B dL_packs_187 0 rfl ?_
      refine j_if_eq B 196 dL_packs_189 (by decide) (fun h19 => ?_) (fun h19 => absurd h19 (by decide))
      refine j_iload B dL_packs_196 1 rfl ?_
      refine j_icmp_ne B 219 dL_packs_198 (by decide) (fun h20 => (by clear B hret; grind : False).elim) (fun h20 => ?_)
      refine j_aload_n B dL_packs_201 2 rfl rfl ?_
      refine j_aload B dL_packs_202 6 rfl ?_
      refine j_aload B dL_packs_204 7 rfl ?_
      refine j_lconst B (v := 1) dL_packs_206 (by decide) ?_
      refine j_iload_n B dL_packs_207 4 rfl rfl ?_
      refine j_lshl B dL_packs_208 ?_
      refine j_lawI B 4 [.ref (ad 0), .ref (ca 0), .ref (ca 1), .long ((1 : Int64) <<< ((nI j).toInt64 &&& 63))] (c_L_areSame l hl D cD cC cI cZ cL A τ1 φ n ad ca f hI1.1 (hc0) ((1 : Int64) <<< ((nI j).toInt64 &&& 63)) (pv_same1 (pv_j64 h hj) hd hE1 (fun _ => rfl))) q_429 q_430 q_0 q_431 hdL_areSame rfl ⟨Nat.le_of_ble_eq_true rfl, Nat.le_of_ble_eq_true rfl⟩ (Nat.le_of_ble_eq_true rfl) dL_packs_209 rfl (370) (2220) ⟨Nat.le_of_ble_eq_true rfl, Nat.le_of_ble_eq_true rfl⟩ ⟨Nat.le_of_ble_eq_true rfl, Nat.le_of_ble_eq_true rfl⟩ (fun r21 _ h22 => ?_)
      subst h22
      refine j_if_eq B 219 dL_packs_212 (by decide) (fun h23 => absurd h23 (by decide)) (fun h23 => ?_)
      refine j_iconst B (v := 1) dL_packs_215 (by decide) ?_
      refine j_goto B 220 dL_packs_216 (by decide) ?_
      exact hret 220 _ 1 (τ1, φ, f) (370) (2220) dL_packs_220 rfl (Nat.le_of_ble_eq_true rfl) (Nat.le_of_ble_eq_true rfl) ⟨rfl, pvI_le hI1 (by omega)⟩
  refine j_if_lt B 156 dL_packs_132 (by decide) (fun h24 => ?_) (fun h24 => ?_)
  · refine j_iconst B (v := 0) dL_packs_156 (by decide) ?_
    refine j_widen (k := (7)) (n := (42)) (Nat.le_of_ble_eq_true rfl) (Nat.le_of_ble_eq_true rfl) ?_
    exact kj2 0 (Or.inr ⟨rfl, by clear B hret kj2; grind⟩)
  · refine j_aload B dL_packs_135 7 rfl ?_
    refine j_iload_n B dL_packs_137 3 rfl rfl ?_
    refine j_lawI B 2 [.ref (ca 5), .int (nI j)] (c_L_isMissing l hl D cD cC cI cZ cL A σ φ n ad ca f j (by omega)) q_290 q_291 q_0 q_292 hdL_isMissing rfl ⟨Nat.le_of_ble_eq_true rfl, Nat.le_of_ble_eq_true rfl⟩ (Nat.le_of_ble_eq_true rfl) dL_packs_138 rfl (1) (6) ⟨Nat.le_of_ble_eq_true rfl, Nat.le_of_ble_eq_true rfl⟩ ⟨Nat.le_of_ble_eq_true rfl, Nat.le_of_ble_eq_true rfl⟩ (fun r25 _ h26 => ?_)
    rcases h26 with ⟨rfl, h27⟩ | ⟨rfl, h27⟩
    · refine j_if_ne B 156 dL_packs_141 (by decide) (fun h28 => ?_) (fun h28 => absurd h28 (by decide))
      refine j_iconst B (v := 0) dL_packs_156 (by decide) ?_
      refine j_widen (k := (7)) (n := (42)) (Nat.le_of_ble_eq_true rfl) (Nat.le_of_ble_eq_true rfl) ?_
      exact kj2 0 (Or.inr ⟨rfl, by clear B hret kj2; grind⟩)
    · refine j_if_ne B 156 dL_packs_141 (by decide) (fun h29 => absurd h29 (by decide)) (fun h29 => ?_)
      refine j_aload_n B dL_packs_144 1 rfl rfl ?_
      refine j_iload_n B dL_packs_145 3 rfl rfl ?_
      refine j_lawI B 2 [.ref (ad 0), .int (nI j)] (c_L_isShut l hl D cD cC cI cZ cL A σ φ n ad ca f hG j (by omega)) q_293 q_294 q_0 q_295 hdL_isShut rfl ⟨Nat.le_of_ble_eq_true rfl, Nat.le_of_ble_eq_true rfl⟩ (Nat.le_of_ble_eq_true rfl) dL_packs_146 rfl (4) (24) ⟨Nat.le_of_ble_eq_true rfl, Nat.le_of_ble_eq_true rfl⟩ ⟨Nat.le_of_ble_eq_true rfl, Nat.le_of_ble_eq_true rfl⟩ (fun r30 _ h31 => ?_)
      rcases h31 with ⟨rfl, h32⟩ | ⟨rfl, h32⟩
      · refine j_if_ne B 156 dL_packs_149 (by decide) (fun h33 => ?_) (fun h33 => absurd h33 (by decide))
        refine j_iconst B (v := 0) dL_packs_156 (by decide) ?_
        refine j_widen (k := (7)) (n := (42)) (Nat.le_of_ble_eq_true rfl) (Nat.le_of_ble_eq_true rfl) ?_
        exact kj2 0 (Or.inr ⟨rfl, by clear B hret kj2; grind⟩)
      · refine j_if_ne B 156 dL_packs_149 (by decide) (fun h34 => absurd h34 (by decide)) (fun h34 => ?_)
        refine j_iconst B (v := 1) dL_packs_152 (by decide) ?_
        refine j_goto B 157 dL_packs_153 (by decide) ?_
        refine j_widen (k := (7)) (n := (42)) (Nat.le_of_ble_eq_true rfl) (Nat.le_of_ble_eq_true rfl) ?_
        exact kj2 1 (Or.inl ⟨rfl, by clear B hret kj2; grind⟩)
