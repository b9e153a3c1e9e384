/-- isMissing -/
abbrev rm_isMissing : Room := { frames := 0, cells := 0, slots := 0, locals := 0 }
set_option maxHeartbeats 4000000 in
set_option maxRecDepth 100000 in
theorem c_L_isMissing (l : Launch) (hl : l.stackTraces = false) (D : va_G) (cD cC cI cZ cL : ClassId) (A : Nat → Prop) (σ φ : pgSt) (n : Nat) (ad ca : Nat → Nat) (f : Nat → Int64) (j : Nat) (hj : j < 64) : Met l yL_isMissing (.code yL_isMissing cL_isMissing 2 (some .boolean) :: pgWd) rm_isMissing (pgPc D (pgTys cD cC cI cZ cL) A (pvW D cD cC cI cL A σ n ad φ ca f) [.ref (ca 5), .int (nI j)]) (va_Qi (fun (r : Int32) (u : Unit) => r = 1 ∧ pvB (f 0) j ∨ r = 0 ∧ ¬ pvB (f 0) j) (fun u t9 => (pvW D cD cC cI cL A σ n ad φ ca f) t9.heap) A) rm_isMissing.cells rm_isMissing.slots A := by
  refine pv_enter (own := RL) (by decide) rfl (Nat.le_of_ble_eq_true rfl) (fun p e s m args below meth cc9 Q B hret => ?_)
  refine j_aload_n B dL_isMissing_0 0 rfl rfl ?_
  refine j_iconst B (v := 0) dL_isMissing_1 (by decide) ?_
  refine j_plL B dL_isMissing_2 ?_
  refine j_iload_n B dL_isMissing_3 1 rfl rfl ?_
  refine j_lshr B dL_isMissing_4 ?_
  refine j_lconst B (v := 1) dL_isMissing_5 (by decide) ?_
  refine j_land B dL_isMissing_6 ?_
  refine j_lconst B (v := 1) dL_isMissing_7 (by decide) ?_
  refine j_lcmp B dL_isMissing_8 ?_
  refine j_if_ne B 16 dL_isMissing_9 (by decide) (fun h1 => ?_) (fun h1 => ?_)
  · refine j_iconst B (v := 0) dL_isMissing_16 (by decide) ?_
    exact hret 17 _ 0 () (0) (0) dL_isMissing_17 rfl (Nat.le_of_ble_eq_true rfl) (Nat.le_of_ble_eq_true rfl) (Or.inr ⟨rfl, fun z => absurd ((pv_c1 hj).mpr z) (by assumption)⟩)
  · refine j_iconst B (v := 1) dL_isMissing_12 (by decide) ?_
    refine j_goto B 17 dL_isMissing_13 (by decide) ?_
    exact hret 17 _ 1 () (0) (0) dL_isMissing_17 rfl (Nat.le_of_ble_eq_true rfl) (Nat.le_of_ble_eq_true rfl) (Or.inl ⟨rfl, (pv_c1 hj).mp (by assumption)⟩)
/-- isShut -/
abbrev rm_isShut : Room := { frames := 8, cells := 3, slots := 18, locals := 125 }
set_option maxHeartbeats 4000000 in
set_option maxRecDepth 100000 in
theorem c_L_isShut (l : Launch) (hl : l.stackTraces = false) (D : va_G) (cD cC cI cZ cL : ClassId) (A : Nat → Prop) (σ φ : pgSt) (n : Nat) (ad ca : Nat → Nat) (f : Nat → Int64) (hG : pgI n σ) (j : Nat) (hj : j < n) : Met l yL_isShut (.code yL_isShut cL_isShut 2 (some .boolean) :: pgWd) rm_isShut (pgPc D (pgTys cD cC cI cZ cL) A (pvW D cD cC cI cL A σ n ad φ ca f) [.ref (ad 0), .int (nI j)]) (va_Qi (fun (r : Int32) (u : Unit) => r = 1 ∧ pgShut σ j ∨ r = 0 ∧ ¬ pgShut σ j) (fun u t9 => (pvW D cD cC cI cL A σ n ad φ ca f) t9.heap) A) rm_isShut.cells rm_isShut.slots A := by
  refine pv_enter (own := RL) (by decide) rfl (Nat.le_of_ble_eq_true rfl) (fun p e s m args below meth cc9 Q B hret => ?_)
  refine j_aload_n B dL_isShut_0 0 rfl rfl ?_
  refine j_iload_n B dL_isShut_1 1 rfl rfl ?_
  refine j_ask B (σ 3 j) 1 [.int (nI j)] (c_X2_crateOf l hl D cD cC cI cZ cL (pvA A ca) σ n ad hG (nI j)) (pv_askD hG (by omega) 3) q_254 q_255 q_256 q_1 q_257 hdX2_crateOf rfl ⟨Nat.le_of_ble_eq_true rfl, Nat.le_of_ble_eq_true rfl⟩ (Nat.le_of_ble_eq_true rfl) dL_isShut_2 rfl (1) (6) ⟨Nat.le_of_ble_eq_true rfl, Nat.le_of_ble_eq_true rfl⟩ ⟨Nat.le_of_ble_eq_true rfl, Nat.le_of_ble_eq_true rfl⟩ ?_
  refine j_if_lt B 24 dL_isShut_5 (by decide) (fun h1 => ?_) (fun h1 => ?_)
  · have e3 : σ 3 j = -1 := by
      rcases pv_cr hG hj with z | ⟨c9, -, -, -, z, -⟩
      · exact z.1
      · exact absurd h1 z
    refine j_iconst B (v := 0) dL_isShut_24 (by decide) ?_
    exact hret 25 _ 0 () (1) (6) dL_isShut_25 rfl (Nat.le_of_ble_eq_true rfl) (Nat.le_of_ble_eq_true rfl) (by clear B hret; simp only [pgShut]; grind)
  · obtain ⟨c9, hc9, ec9, ex9, -, -, en9⟩ : ∃ c, c < 10 ∧ σ 3 j = nI c ∧ ix (σ 3 j) = c ∧ ¬ σ 3 j < 0 ∧ 0 ≤ σ 3 j ∧ σ 3 j ≠ -1 := by
      rcases pv_cr hG hj with z | z
      · exact absurd z.2.1 h1
      · exact z
    have hse := pv_se hG hc9
    refine j_aload_n B dL_isShut_8 0 rfl rfl ?_
    refine j_aload_n B dL_isShut_9 0 rfl rfl ?_
    refine j_iload_n B dL_isShut_10 1 rfl rfl ?_
    refine j_ask B (σ 3 j) 1 [.int (nI j)] (c_X2_crateOf l hl D cD cC cI cZ cL (pvA A ca) σ n ad hG (nI j)) (pv_askD hG (by omega) 3) q_254 q_255 q_256 q_1 q_257 hdX2_crateOf rfl ⟨Nat.le_of_ble_eq_true rfl, Nat.le_of_ble_eq_true rfl⟩ (Nat.le_of_ble_eq_true rfl) dL_isShut_11 rfl (2) (12) ⟨Nat.le_of_ble_eq_true rfl, Nat.le_of_ble_eq_true rfl⟩ ⟨Nat.le_of_ble_eq_true rfl, Nat.le_of_ble_eq_true rfl⟩ ?_
    refine j_stack (st2 := [.int (nI c9), .ref (ad 0)]) (by rw [← ec9]) ?_
    refine j_ask B (σ 11 c9) 1 [.int (nI c9)] (c_X2_sealOf l hl D cD cC cI cZ cL (pvA A ca) σ n ad hG (nI c9)) (pv_askC hc9 11) q_296 q_297 q_298 q_1 q_299 hdX2_sealOf rfl ⟨Nat.le_of_ble_eq_true rfl, Nat.le_of_ble_eq_true rfl⟩ (Nat.le_of_ble_eq_true rfl) dL_isShut_14 rfl (3) (18) ⟨Nat.le_of_ble_eq_true rfl, Nat.le_of_ble_eq_true rfl⟩ ⟨Nat.le_of_ble_eq_true rfl, Nat.le_of_ble_eq_true rfl⟩ ?_
    refine j_if_lt B 24 dL_isShut_17 (by decide) (fun h2 => ?_) (fun h2 => ?_)
    · refine j_iconst B (v := 0) dL_isShut_24 (by decide) ?_
      exact hret 25 _ 0 () (3) (18) dL_isShut_25 rfl (Nat.le_of_ble_eq_true rfl) (Nat.le_of_ble_eq_true rfl) (by clear B hret; simp only [pgShut]; grind)
    · refine j_iconst B (v := 1) dL_isShut_20 (by decide) ?_
      refine j_goto B 25 dL_isShut_21 (by decide) ?_
      exact hret 25 _ 1 () (3) (18) dL_isShut_25 rfl (Nat.le_of_ble_eq_true rfl) (Nat.le_of_ble_eq_true rfl) (by clear B hret; simp only [pgShut]; grind)
/-- isFree -/
abbrev rm_isFree : Room := { frames := 9, cells := 4, slots := 24, locals := 146 }
set_option maxHeartbeats 4000000 in
set_option maxRecDepth 100000 in
theorem c_L_isFree (l : Launch) (hl : l.stackTraces = false) (D : va_G) (cD cC cI cZ cL : ClassId) (A : Nat → Prop) (σ φ : pgSt) (n : Nat) (ad ca : Nat → Nat) (f : Nat → Int64) (hG : pgI n σ) (j : Nat) (hj : j < n) (hm : pvB (f 0) j ↔ σ 5 j ≠ 0) : Met l yL_isFree (.code yL_isFree cL_isFree 3 (some .boolean) :: pgWd) rm_isFree (pgPc D (pgTys cD cC cI cZ cL) A (pvW D cD cC cI cL A σ n ad φ ca f) [.ref (ad 0), .ref (ca 5), .int (nI j)]) (va_Qi (fun (r : Int32) (u : Unit) => r = 1 ∧ pgReach σ j ∨ r = 0 ∧ ¬ pgReach σ j) (fun u t9 => (pvW D cD cC cI cL A σ n ad φ ca f) t9.heap) A) rm_isFree.cells rm_isFree.slots A := by
  refine pv_enter (own := RL) (by decide) rfl (Nat.le_of_ble_eq_true rfl) (fun p e s m args below meth cc9 Q B hret => ?_)
  have hn60 : n ≤ 60 := hG.1
  refine j_aload_n B dL_isFree_0 1 rfl rfl ?_
  refine j_iload_n B dL_isFree_1 2 rfl rfl ?_
  refine j_lawI B 2 [.ref (ca 5), .int (nI j)] (c_L_isMissing l hl D cD cC cI cZ cL A σ φ n ad ca f j (by omega)) q_290 q_291 q_0 q_292 hdL_isMissing rfl ⟨Nat.le_of_ble_eq_true rfl, Nat.le_of_ble_eq_true rfl⟩ (Nat.le_of_ble_eq_true rfl) dL_isFree_2 rfl (0) (0) ⟨Nat.le_of_ble_eq_true rfl, Nat.le_of_ble_eq_true rfl⟩ ⟨Nat.le_of_ble_eq_true rfl, Nat.le_of_ble_eq_true rfl⟩ (fun r1 _ h2 => ?_)
  rcases h2 with ⟨rfl, h3⟩ | ⟨rfl, h3⟩
  · refine j_if_ne B 29 dL_isFree_5 (by decide) (fun h4 => ?_) (fun h4 => absurd h4 (by decide))
    refine j_iconst B (v := 0) dL_isFree_29 (by decide) ?_
    exact hret 30 _ 0 () (0) (0) dL_isFree_30 rfl (Nat.le_of_ble_eq_true rfl) (Nat.le_of_ble_eq_true rfl) (by clear B hret; simp only [pgReach]; grind)
  · refine j_if_ne B 29 dL_isFree_5 (by decide) (fun h5 => absurd h5 (by decide)) (fun h5 => ?_)
    refine j_aload_n B dL_isFree_8 0 rfl rfl ?_
    refine j_iload_n B dL_isFree_9 2 rfl rfl ?_
    refine j_ask B (σ 6 j) 1 [.int (nI j)] (c_X2_offeredTo l hl D cD cC cI cZ cL (pvA A ca) σ n ad hG (nI j)) (pv_askD hG (by omega) 6) q_268 q_269 q_270 q_1 q_271 hdX2_offeredTo rfl ⟨Nat.le_of_ble_eq_true rfl, Nat.le_of_ble_eq_true rfl⟩ (Nat.le_of_ble_eq_true rfl) dL_isFree_10 rfl (1) (6) ⟨Nat.le_of_ble_eq_true rfl, Nat.le_of_ble_eq_true rfl⟩ ⟨Nat.le_of_ble_eq_true rfl, Nat.le_of_ble_eq_true rfl⟩ ?_
    refine j_iconst B (v := (-1)) dL_isFree_13 (by decide) ?_
    refine j_icmp_ne B 29 dL_isFree_14 (by decide) (fun h6 => ?_) (fun h6 => ?_)
    · refine j_iconst B (v := 0) dL_isFree_29 (by decide) ?_
      exact hret 30 _ 0 () (1) (6) dL_isFree_30 rfl (Nat.le_of_ble_eq_true rfl) (Nat.le_of_ble_eq_true rfl) (by clear B hret; simp only [pgReach]; grind)
    · refine j_aload_n B dL_isFree_17 0 rfl rfl ?_
      refine j_iload_n B dL_isFree_18 2 rfl rfl ?_
      refine j_lawI B 2 [.ref (ad 0), .int (nI j)] (c_L_isShut l hl D cD cC cI cZ cL A σ φ n ad ca f hG j (by omega)) q_293 q_294 q_0 q_295 hdL_isShut rfl ⟨Nat.le_of_ble_eq_true rfl, Nat.le_of_ble_eq_true rfl⟩ (Nat.le_of_ble_eq_true rfl) dL_isFree_19 rfl (4) (24) ⟨Nat.le_of_ble_eq_true rfl, Nat.le_of_ble_eq_true rfl⟩ ⟨Nat.le_of_ble_eq_true rfl, Nat.le_of_ble_eq_true rfl⟩ (fun r7 _ h8 => ?_)
      rcases h8 with ⟨rfl, h9⟩ | ⟨rfl, h9⟩
      · refine j_if_ne B 29 dL_isFree_22 (by decide) (fun h10 => ?_) (fun h10 => absurd h10 (by decide))
        refine j_iconst B (v := 0) dL_isFree_29 (by decide) ?_
        exact hret 30 _ 0 () (4) (24) dL_isFree_30 rfl (Nat.le_of_ble_eq_true rfl) (Nat.le_of_ble_eq_true rfl) (by clear B hret; simp only [pgReach]; grind)
      · refine j_if_ne B 29 dL_isFree_22 (by decide) (fun h11 => absurd h11 (by decide)) (fun h11 => ?_)
        refine j_iconst B (v := 1) dL_isFree_25 (by decide) ?_
        refine j_goto B 30 dL_isFree_26 (by decide) ?_
        exact hret 30 _ 1 () (4) (24) dL_isFree_30 rfl (Nat.le_of_ble_eq_true rfl) (Nat.le_of_ble_eq_true rfl) (by clear B hret; simp only [pgReach]; grind)
/-- disk -/
abbrev rm_disk : Room := { frames := 8, cells := 6, slots := 36, locals := 125 }
set_option maxHeartbeats 4000000 in
set_option maxRecDepth 100000 in
theorem c_L_disk (l : Launch) (hl : l.stackTraces = false) (D : va_G) (cD cC cI cZ cL : ClassId) (A : Nat → Prop) (σ φ : pgSt) (n : Nat) (ad ca : Nat → Nat) (f : Nat → Int64) (hG : pgI n σ) (j : Nat) (hj : j < n) : Met l yL_disk (.code yL_disk cL_disk 2 (some .int) :: pgWd) rm_disk (pgPc D (pgTys cD cC cI cZ cL) A (pvW D cD cC cI cL A σ n ad φ ca f) [.ref (ad 0), .int (nI j)]) (va_Qi (fun (r : Int32) (u : Unit) => r = pvE σ j) (fun u t9 => (pvW D cD cC cI cL A σ n ad φ ca f) t9.heap) A) rm_disk.cells rm_disk.slots A := by
  refine pv_enter (own := RL) (by decide) rfl (Nat.le_of_ble_eq_true rfl) (fun p e s m args below meth cc9 Q B hret => ?_)
  refine j_aload_n B dL_disk_0 0 rfl rfl ?_
  refine j_iload_n B dL_disk_1 1 rfl rfl ?_
  refine j_ask B (σ 2 j) 1 [.int (nI j)] (c_X2_keeperOf l hl D cD cC cI cZ cL (pvA A ca) σ n ad hG (nI j)) (pv_askD hG (by omega) 2) q_241 q_242 q_243 q_1 q_244 hdX2_keeperOf rfl ⟨Nat.le_of_ble_eq_true rfl, Nat.le_of_ble_eq_true rfl⟩ (Nat.le_of_ble_eq_true rfl) dL_disk_2 rfl (1) (6) ⟨Nat.le_of_ble_eq_true rfl, Nat.le_of_ble_eq_true rfl⟩ ⟨Nat.le_of_ble_eq_true rfl, Nat.le_of_ble_eq_true rfl⟩ ?_
  refine j_bipush B (v := 8) dL_disk_5 (by decide) ?_
  refine j_aload_n B dL_disk_7 0 rfl rfl ?_
  refine j_iload_n B dL_disk_8 1 rfl rfl ?_
  refine j_ask B (σ 3 j) 1 [.int (nI j)] (c_X2_crateOf l hl D cD cC cI cZ cL (pvA A ca) σ n ad hG (nI j)) (pv_askD hG (by omega) 3) q_254 q_255 q_256 q_1 q_257 hdX2_crateOf rfl ⟨Nat.le_of_ble_eq_true rfl, Nat.le_of_ble_eq_true rfl⟩ (Nat.le_of_ble_eq_true rfl) dL_disk_9 rfl (2) (12) ⟨Nat.le_of_ble_eq_true rfl, Nat.le_of_ble_eq_true rfl⟩ ⟨Nat.le_of_ble_eq_true rfl, Nat.le_of_ble_eq_true rfl⟩ ?_
  refine j_iconst B (v := 1) dL_disk_12 (by decide) ?_
  refine j_addv B ((σ 3 j) + 1) (rfl) dL_disk_13 ?_
  refine j_mulv B (8 * ((σ 3 j) + 1)) (rfl) dL_disk_14 ?_
  refine j_addv B ((σ 2 j) + (8 * ((σ 3 j) + 1))) (rfl) dL_disk_15 ?_
  refine j_bipush B (v := 88) dL_disk_16 (by decide) ?_
  refine j_aload_n B dL_disk_18 0 rfl rfl ?_
  refine j_iload_n B dL_disk_19 1 rfl rfl ?_
  refine j_ask B (σ 4 j) 1 [.int (nI j)] (c_X2_stateOf l hl D cD cC cI cZ cL (pvA A ca) σ n ad hG (nI j)) (pv_askD hG (by omega) 4) q_250 q_251 q_252 q_1 q_253 hdX2_stateOf rfl ⟨Nat.le_of_ble_eq_true rfl, Nat.le_of_ble_eq_true rfl⟩ (Nat.le_of_ble_eq_true rfl) dL_disk_20 rfl (3) (18) ⟨Nat.le_of_ble_eq_true rfl, Nat.le_of_ble_eq_true rfl⟩ ⟨Nat.le_of_ble_eq_true rfl, Nat.le_of_ble_eq_true rfl⟩ ?_
  refine j_mulv B (88 * (σ 4 j)) (rfl) dL_disk_23 ?_
  refine j_addv B (((σ 2 j) + (8 * ((σ 3 j) + 1))) + (88 * (σ 4 j))) (rfl) dL_disk_24 ?_
  refine j_sipush B (v := 352) dL_disk_25 (by decide) ?_
  refine j_aload_n B dL_disk_28 0 rfl rfl ?_
  refine j_iload_n B dL_disk_29 1 rfl rfl ?_
  refine j_ask B (σ 6 j) 1 [.int (nI j)] (c_X2_offeredTo l hl D cD cC cI cZ cL (pvA A ca) σ n ad hG (nI j)) (pv_askD hG (by omega) 6) q_268 q_269 q_270 q_1 q_271 hdX2_offeredTo rfl ⟨Nat.le_of_ble_eq_true rfl, Nat.le_of_ble_eq_true rfl⟩ (Nat.le_of_ble_eq_true rfl) dL_disk_30 rfl (4) (24) ⟨Nat.le_of_ble_eq_true rfl, Nat.le_of_ble_eq_true rfl⟩ ⟨Nat.le_of_ble_eq_true rfl, Nat.le_of_ble_eq_true rfl⟩ ?_
  refine j_iconst B (v := 1) dL_disk_33 (by decide) ?_
  refine j_addv B ((σ 6 j) + 1) (rfl) dL_disk_34 ?_
  refine j_mulv B (352 * ((σ 6 j) + 1)) (rfl) dL_disk_35 ?_
  refine j_addv B ((((σ 2 j) + (8 * ((σ 3 j) + 1))) + (88 * (σ 4 j))) + (352 * ((σ 6 j) + 1))) (rfl) dL_disk_36 ?_
  refine j_sipush B (v := 3168) dL_disk_37 (by decide) ?_
  refine j_aload_n B dL_disk_40 0 rfl rfl ?_
  refine j_iload_n B dL_disk_41 1 rfl rfl ?_
  obtain ⟨r1, e2, h3⟩ := pv_done hG (by omega)
  refine j_ask B r1 1 [.int (nI j)] (c_X2_isDone l hl D cD cC cI cZ cL (pvA A ca) σ n ad hG (nI j)) e2 q_272 q_273 q_274 q_1 q_275 hdX2_isDone rfl ⟨Nat.le_of_ble_eq_true rfl, Nat.le_of_ble_eq_true rfl⟩ (Nat.le_of_ble_eq_true rfl) dL_disk_42 rfl (5) (30) ⟨Nat.le_of_ble_eq_true rfl, Nat.le_of_ble_eq_true rfl⟩ ⟨Nat.le_of_ble_eq_true rfl, Nat.le_of_ble_eq_true rfl⟩ ?_
  rcases h3 with ⟨rfl, h4⟩ | ⟨rfl, h4⟩
  · refine j_if_eq B 52 dL_disk_45 (by decide) (fun h5 => absurd h5 (by decide)) (fun h5 => ?_)
    refine j_iconst B (v := 1) dL_disk_48 (by decide) ?_
    refine j_goto B 53 dL_disk_49 (by decide) ?_
    refine j_mulv B (3168 * 1) (rfl) dL_disk_53 ?_
    refine j_addv B (((((σ 2 j) + (8 * ((σ 3 j) + 1))) + (88 * (σ 4 j))) + (352 * ((σ 6 j) + 1))) + (3168 * 1)) (rfl) dL_disk_54 ?_
    refine j_sipush B (v := 6336) dL_disk_55 (by decide) ?_
    refine j_aload_n B dL_disk_58 0 rfl rfl ?_
    refine j_iload_n B dL_disk_59 1 rfl rfl ?_
    refine j_ask B (σ 9 j) 1 [.int (nI j)] (c_X2_certificateOf l hl D cD cC cI cZ cL (pvA A ca) σ n ad hG (nI j)) (pv_askD hG (by omega) 9) q_280 q_281 q_282 q_1 q_283 hdX2_certificateOf rfl ⟨Nat.le_of_ble_eq_true rfl, Nat.le_of_ble_eq_true rfl⟩ (Nat.le_of_ble_eq_true rfl) dL_disk_60 rfl (6) (36) ⟨Nat.le_of_ble_eq_true rfl, Nat.le_of_ble_eq_true rfl⟩ ⟨Nat.le_of_ble_eq_true rfl, Nat.le_of_ble_eq_true rfl⟩ ?_
    refine j_iconst B (v := 1) dL_disk_63 (by decide) ?_
    refine j_addv B ((σ 9 j) + 1) (rfl) dL_disk_64 ?_
    refine j_mulv B (6336 * ((σ 9 j) + 1)) (rfl) dL_disk_65 ?_
    refine j_addv B ((((((σ 2 j) + (8 * ((σ 3 j) + 1))) + (88 * (σ 4 j))) + (352 * ((σ 6 j) + 1))) + (3168 * 1)) + (6336 * ((σ 9 j) + 1))) (rfl) dL_disk_66 ?_
    exact hret 67 _ ((((((σ 2 j) + (8 * ((σ 3 j) + 1))) + (88 * (σ 4 j))) + (352 * ((σ 6 j) + 1))) + (3168 * 1)) + (6336 * ((σ 9 j) + 1))) () (6) (36) dL_disk_67 rfl (Nat.le_of_ble_eq_true rfl) (Nat.le_of_ble_eq_true rfl) (by unfold pvE; simp [*])
  · refine j_if_eq B 52 dL_disk_45 (by decide) (fun h6 => ?_) (fun h6 => absurd h6 (by decide))
    refine j_iconst B (v := 0) dL_disk_52 (by decide) ?_
    refine j_mulv B (3168 * 0) (rfl) dL_disk_53 ?_
    refine j_addv B (((((σ 2 j) + (8 * ((σ 3 j) + 1))) + (88 * (σ 4 j))) + (352 * ((σ 6 j) + 1))) + (3168 * 0)) (rfl) dL_disk_54 ?_
    refine j_sipush B (v := 6336) dL_disk_55 (by decide) ?_
    refine j_aload_n B dL_disk_58 0 rfl rfl ?_
    refine j_iload_n B dL_disk_59 1 rfl rfl ?_
    refine j_ask B (σ 9 j) 1 [.int (nI j)] (c_X2_certificateOf l hl D cD cC cI cZ cL (pvA A ca) σ n ad hG (nI j)) (pv_askD hG (by omega) 9) q_280 q_281 q_282 q_1 q_283 hdX2_certificateOf rfl ⟨Nat.le_of_ble_eq_true rfl, Nat.le_of_ble_eq_true rfl⟩ (Nat.le_of_ble_eq_true rfl) dL_disk_60 rfl (6) (36) ⟨Nat.le_of_ble_eq_true rfl, Nat.le_of_ble_eq_true rfl⟩ ⟨Nat.le_of_ble_eq_true rfl, Nat.le_of_ble_eq_true rfl⟩ ?_
    refine j_iconst B (v := 1) dL_disk_63 (by decide) ?_
    refine j_addv B ((σ 9 j) + 1) (rfl) dL_disk_64 ?_
    refine j_mulv B (6336 * ((σ 9 j) + 1)) (rfl) dL_disk_65 ?_
    refine j_addv B ((((((σ 2 j) + (8 * ((σ 3 j) + 1))) + (88 * (σ 4 j))) + (352 * ((σ 6 j) + 1))) + (3168 * 0)) + (6336 * ((σ 9 j) + 1))) (rfl) dL_disk_66 ?_
    exact hret 67 _ ((((((σ 2 j) + (8 * ((σ 3 j) + 1))) + (88 * (σ 4 j))) + (352 * ((σ 6 j) + 1))) + (3168 * 0)) + (6336 * ((σ 9 j) + 1))) () (6) (36) dL_disk_67 rfl (Nat.le_of_ble_eq_true rfl) (Nat.le_of_ble_eq_true rfl) (by unfold pvE; simp [*])
