theorem pv_k3a : ∀ a, a < 3 → ∀ b, b < 4 → nI (a + 4 * b) &&& 3 = nI a := by decide +kernel
theorem pv_k2a : ∀ a, a < 3 → ∀ b, b < 4 → nI (a + 4 * b) >>> ((2 : Int32) &&& 31) = nI b := by decide +kernel
theorem pv_k3 {σ φ : pgSt} {j : Nat} (h : pvD σ φ j) : φ 2 j &&& 3 = σ 0 j := by
  obtain ⟨a, b, ha, hb, e0, e1, e2⟩ := h.2.2.2.2.1
  rw [e2, e0]
  exact pv_k3a a ha b hb
theorem pv_k2 {σ φ : pgSt} {j : Nat} (h : pvD σ φ j) : φ 2 j >>> ((2 : Int32) &&& 31) = σ 1 j := by
  obtain ⟨a, b, ha, hb, e0, e1, e2⟩ := h.2.2.2.2.1
  rw [e2, e1]
  exact pv_k2a a ha b hb
/-- works_4 -/
abbrev rm_works_4 : Room := { frames := 10, cells := 374, slots := 2244, locals := 172 }
set_option maxHeartbeats 4000000 in
set_option maxRecDepth 100000 in
theorem c_L_works_4 (l : Launch) (hl : l.stackTraces = false) (D : va_G) (cD cC cI cZ cL : ClassId) (A : Nat → Prop) (σ φ : pgSt) (n : Nat) (ad ca : Nat → Nat) (f : Nat → Int64) (Bd : Nat) (h : pvI n σ φ (f 0) Bd) (hd : ∀ i, i < n → φ 1 i = pvE σ i) (j : Nat) (hj : j < n) (w : Nat) (hw : w < 3) (k : Nat) (hk : k < 8) : Met l yL_works (.code yL_works cL_works 18 (some .boolean) :: pgWd) rm_works_4 (pgPc D (pgTys cD cC cI cZ cL) A (pvW D cD cC cI cL A σ n ad φ ca f) [.ref (ad 0), .int 4, .int (nI j), .int (nI w), .int (nI k), .ref (ca 0), .ref (ca 1), .ref (ca 2), .ref (ca 5), .ref (ca 4)]) (va_Qi (fun (r : Int32) (u : pgSt × pgSt × (Nat → Int64)) => r = 1 ∧ pvI n u.1 u.2.1 (u.2.2 0) (Bd + 1)) (fun u t9 => (pvW D cD cC cI cL A u.1 n ad u.2.1 ca u.2.2) t9.heap) A) rm_works_4.cells rm_works_4.slots A := by
  refine pv_enter (own := RL) (by decide) rfl (Nat.le_of_ble_eq_true rfl) (fun p e s m args below meth cc9 Q B hret => ?_)
  have hG := h.1
  have hn60 : n ≤ 60 := hG.1
  have hc0 : φ 0 0 = nI n := h.2.1.1
  have hm := h.2.2.2.2.2.2
  have hk3 := pv_k3 (h.2.2.1 j hj)
  have hk2 := pv_k2 (h.2.2.1 j hj)
  have hl3 : σ 1 j < 3 ↔ ¬ 3 ≤ σ 1 j := Int32.not_le.symm
  refine j_aload_n B dL_works_0 0 rfl rfl ?_
  refine j_iload_n B dL_works_1 2 rfl rfl ?_
  refine j_ask B (σ 4 j) 1 [.int (nI j)] (c_X2_stateOf l hl D cD cC cI cZ cL (pvA A ca) σ n ad hG (nI j)) (pv_askD hG (by omega) 4) q_250 q_251 q_252 q_1 q_253 hdX2_stateOf rfl ⟨Nat.le_of_ble_eq_true rfl, Nat.le_of_ble_eq_true rfl⟩ (Nat.le_of_ble_eq_true rfl) dL_works_2 rfl (1) (6) ⟨Nat.le_of_ble_eq_true rfl, Nat.le_of_ble_eq_true rfl⟩ ⟨Nat.le_of_ble_eq_true rfl, Nat.le_of_ble_eq_true rfl⟩ ?_
  refine j_istore B (L' := [(10, .int (σ 4 j)), (0, .ref (ad 0)), (1, .int 4), (2, .int (nI j)), (3, .int (nI w)), (4, .int (nI k)), (5, .ref (ca 0)), (6, .ref (ca 1)), (7, .ref (ca 2)), (8, .ref (ca 5)), (9, .ref (ca 4))]) dL_works_5 (by decide) rfl ?_
  refine j_aload_n B dL_works_7 1 rfl rfl ?_
  refine j_iload_n B dL_works_8 3 rfl rfl ?_
  refine j_ask B (σ 2 j) 1 [.int (nI j)] (c_X2_keeperOf l hl D cD cC cI cZ cL (pvA A ca) σ n ad hG (nI j)) (pv_askD hG (by omega) 2) q_241 q_242 q_243 q_1 q_244 hdX2_keeperOf rfl ⟨Nat.le_of_ble_eq_true rfl, Nat.le_of_ble_eq_true rfl⟩ (Nat.le_of_ble_eq_true rfl) dL_works_9 rfl (2) (12) ⟨Nat.le_of_ble_eq_true rfl, Nat.le_of_ble_eq_true rfl⟩ ⟨Nat.le_of_ble_eq_true rfl, Nat.le_of_ble_eq_true rfl⟩ ?_
  refine j_istore B (L' := [(11, .int (σ 2 j)), (10, .int (σ 4 j)), (0, .ref (ad 0)), (1, .int 4), (2, .int (nI j)), (3, .int (nI w)), (4, .int (nI k)), (5, .ref (ca 0)), (6, .ref (ca 1)), (7, .ref (ca 2)), (8, .ref (ca 5)), (9, .ref (ca 4))]) dL_works_12 (by decide) rfl ?_
  refine j_aload_n B dL_works_14 2 rfl rfl ?_
  refine j_aload B dL_works_15 10 rfl ?_
  refine j_iload_n B dL_works_17 4 rfl rfl ?_
  refine j_lawI B 3 [.ref (ad 0), .ref (ca 5), .int (nI j)] (c_L_isFree l hl D cD cC cI cZ cL A σ φ n ad ca f hG j (by omega) (hm j (by omega))) q_287 q_288 q_0 q_289 hdL_isFree rfl ⟨Nat.le_of_ble_eq_true rfl, Nat.le_of_ble_eq_true rfl⟩ (Nat.le_of_ble_eq_true rfl) dL_works_18 rfl (6) (36) ⟨Nat.le_of_ble_eq_true rfl, Nat.le_of_ble_eq_true rfl⟩ ⟨Nat.le_of_ble_eq_true rfl, Nat.le_of_ble_eq_true rfl⟩ (fun r1 _ h2 => ?_)
  refine j_istore B (L' := [(12, .int r1), (11, .int (σ 2 j)), (10, .int (σ 4 j)), (0, .ref (ad 0)), (1, .int 4), (2, .int (nI j)), (3, .int (nI w)), (4, .int (nI k)), (5, .ref (ca 0)), (6, .ref (ca 1)), (7, .ref (ca 2)), (8, .ref (ca 5)), (9, .ref (ca 4))]) dL_works_21 (by decide) rfl ?_
  refine j_aload_n B dL_works_23 3 rfl rfl ?_
  refine j_iload_n B dL_works_24 5 rfl rfl ?_
  obtain ⟨r3, e4, h5⟩ := pv_done hG (by omega)
  refine j_ask B r3 1 [.int (nI j)] (c_X2_isDone l hl D cD cC cI cZ cL (pvA A ca) σ n ad hG (nI j)) e4 q_272 q_273 q_274 q_1 q_275 hdX2_isDone rfl ⟨Nat.le_of_ble_eq_true rfl, Nat.le_of_ble_eq_true rfl⟩ (Nat.le_of_ble_eq_true rfl) dL_works_25 rfl (7) (42) ⟨Nat.le_of_ble_eq_true rfl, Nat.le_of_ble_eq_true rfl⟩ ⟨Nat.le_of_ble_eq_true rfl, Nat.le_of_ble_eq_true rfl⟩ ?_
  refine j_istore B (L' := [(13, .int r3), (12, .int r1), (11, .int (σ 2 j)), (10, .int (σ 4 j)), (0, .ref (ad 0)), (1, .int 4), (2, .int (nI j)), (3, .int (nI w)), (4, .int (nI k)), (5, .ref (ca 0)), (6, .ref (ca 1)), (7, .ref (ca 2)), (8, .ref (ca 5)), (9, .ref (ca 4))]) dL_works_28 (by decide) rfl ?_
  refine j_iload_n B dL_works_30 5 rfl rfl ?_
  refine j_iconst B (v := 4) dL_works_31 (by decide) ?_
  refine j_icmp_ne B 49 dL_works_32 (by decide) (fun h6 => absurd h6 (by decide)) (fun h6 => ?_)
  refine j_aload_n B dL_works_35 4 rfl rfl ?_
  refine j_iconst B (v := 4) dL_works_36 (by decide) ?_
  refine j_iload_n B dL_works_37 6 rfl rfl ?_
  refine j_iload_n B dL_works_38 7 rfl rfl ?_
  refine j_iconst B (v := 3) dL_works_39 (by decide) ?_
  refine j_remv B (nI w) ((pv_rem (b := 3) (by omega) (by omega) (by omega)).trans (congrArg nI (Nat.mod_eq_of_lt hw))) (by decide) dL_works_40 ?_
  refine j_iload B dL_works_41 8 rfl ?_
  obtain ⟨t1, τ1, et, eτ, hS1, hg1, hE1, hA1, hB1, hC1, hD1⟩ := pv_wipe h hj hw hk
  have hM := c_L_asks_4 l hl D cD cC cI cZ cL A σ φ n ad ca f hG (nI j) (nI w) (nI k) hS1
  rw [et, eτ] at hM
  refine j_lawW B 5 [.ref (ad 0), .int 4, .int (nI j), .int (nI w), .int (nI k)] hM q_305 q_306 q_0 q_307 hdL_asks rfl ⟨Nat.le_of_ble_eq_true rfl, Nat.le_of_ble_eq_true rfl⟩ (Nat.le_of_ble_eq_true rfl) dL_works_43 rfl (12) (72) ⟨Nat.le_of_ble_eq_true rfl, Nat.le_of_ble_eq_true rfl⟩ ⟨Nat.le_of_ble_eq_true rfl, Nat.le_of_ble_eq_true rfl⟩ (fun r7 _ h8 => ?_)
  rw [h8]
  clear hM h8 r7
  refine j_goto B 78 dL_works_46 (by decide) ?_
  refine j_istore B (L' := [(14, .int t1), (13, .int r3), (12, .int r1), (11, .int (σ 2 j)), (10, .int (σ 4 j)), (0, .ref (ad 0)), (1, .int 4), (2, .int (nI j)), (3, .int (nI w)), (4, .int (nI k)), (5, .ref (ca 0)), (6, .ref (ca 1)), (7, .ref (ca 2)), (8, .ref (ca 5)), (9, .ref (ca 4))]) dL_works_78 (by decide) rfl ?_
  refine j_iload_n B dL_works_80 6 rfl rfl ?_
  refine j_bipush B (v := 6) dL_works_81 (by decide) ?_
  refine j_icmp_ne B 248 dL_works_83 (by decide) (fun h9 => ?_) (fun h9 => absurd h9 (by decide))
  refine j_iload B dL_works_248 9 rfl ?_
  refine j_iload B dL_works_250 3 rfl ?_
  refine j_icmp_ne B 280 dL_works_252 (by decide) (fun h10 => ?_) (fun h10 => ?_)
  · refine j_iload_n B dL_works_280 6 rfl rfl ?_
    refine j_iconst B (v := 5) dL_works_281 (by decide) ?_
    refine j_icmp_ne B 382 dL_works_282 (by decide) (fun h11 => ?_) (fun h11 => absurd h11 (by decide))
    refine j_iload B dL_works_382 2 rfl ?_
    have kj12 : ∀ v13 : Int32, (v13 = 1 ∧ (pgReach σ j ∧ σ 4 j ≠ 1 ∧ σ 4 j ≠ 3) ∨ v13 = 0 ∧ ¬ (pgReach σ j ∧ σ 4 j ≠ 1 ∧ σ 4 j ≠ 3)) → pgJ p l e rm_works_4 s m args below meth cc9 18 A (pvW D cD cC cI cL A τ1 n ad φ ca f) (12) (72) Q 404 [(14, .int t1), (13, .int r3), (12, .int r1), (11, .int (σ 2 j)), (10, .int (σ 4 j)), (0, .ref (ad 0)), (1, .int 4), (2, .int (nI j)), (3, .int (nI w)), (4, .int (nI k)), (5, .ref (ca 0)), (6, .ref (ca 1)), (7, .ref (ca 2)), (8, .ref (ca 5)), (9, .ref (ca 4))] (.int v13 :: []) := by
      intro v13 hv14
      rcases hv14 with ⟨rfl, h15⟩ | ⟨rfl, h15⟩
      · refine j_istore B (L' := [(15, .int 1), (14, .int t1), (13, .int r3), (12, .int r1), (11, .int (σ 2 j)), (10, .int (σ 4 j)), (0, .ref (ad 0)), (1, .int 4), (2, .int (nI j)), (3, .int (nI w)), (4, .int (nI k)), (5, .ref (ca 0)), (6, .ref (ca 1)), (7, .ref (ca 2)), (8, .ref (ca 5)), (9, .ref (ca 4))]) dL_works_404 (by decide) rfl ?_
        refine j_iload_n B dL_works_406 9 rfl rfl ?_
        refine j_iconst B (v := 3) dL_works_407 (by decide) ?_
        refine j_remv B (nI w) ((pv_rem (b := 3) (by omega) (by omega) (by omega)).trans (congrArg nI (Nat.mod_eq_of_lt hw))) (by decide) dL_works_408 ?_
        refine j_aload B dL_works_409 13 rfl ?_
        refine j_iload_n B dL_works_411 8 rfl rfl ?_
        refine j_pld B (k := 2) (j := j) (v := φ 2 j) (by omega) rfl (show j < 60 by omega) rfl dL_works_412 ?_
        refine j_iconst B (v := 3) dL_works_413 (by decide) ?_
        refine j_andv B (σ 0 j) (hk3) dL_works_414 ?_
        refine j_icmp_ne B 432 dL_works_415 (by decide) (fun h16 => ?_) (fun h16 => ?_)
        · refine j_iconst B (v := 2) dL_works_432 (by decide) ?_
          refine j_istore B (L' := [(16, .int 2), (15, .int 1), (14, .int t1), (13, .int r3), (12, .int r1), (11, .int (σ 2 j)), (10, .int (σ 4 j)), (0, .ref (ad 0)), (1, .int 4), (2, .int (nI j)), (3, .int (nI w)), (4, .int (nI k)), (5, .ref (ca 0)), (6, .ref (ca 1)), (7, .ref (ca 2)), (8, .ref (ca 5)), (9, .ref (ca 4))]) dL_works_433 (by decide) rfl ?_
          refine j_aload B dL_works_435 16 rfl ?_
          refine j_iload_n B dL_works_437 9 rfl rfl ?_
          refine j_iload B dL_works_438 1 rfl ?_
          refine j_if_eq B 448 dL_works_440 (by decide) (fun h17 => absurd h17 (by decide)) (fun h17 => ?_)
          refine j_iload B dL_works_443 5 rfl ?_
          refine j_goto B 452 dL_works_445 (by decide) ?_
          refine j_pst B (k := 4) (j := j) (by omega) rfl (show j < 60 by omega) dL_works_452 ?_
          refine j_iload B dL_works_453 2 rfl ?_
          refine j_iload B dL_works_455 1 rfl ?_
          refine j_if_eq B 465 dL_works_457 (by decide) (fun h18 => absurd h18 (by decide)) (fun h18 => ?_)
          refine j_iload B dL_works_460 0 rfl ?_
          refine j_goto B 467 dL_works_462 (by decide) ?_
          refine j_icmp_ne B 527 dL_works_467 (by decide) (fun h19 => (by clear B hret; grind : False).elim) (fun h19 => ?_)
          refine j_aload_n B dL_works_470 7 rfl rfl ?_
          refine j_iload_n B dL_works_471 9 rfl rfl ?_
          refine j_ask B (τ1 4 j) 1 [.int (nI j)] (c_X2_stateOf l hl D cD cC cI cZ cL (pvA A ca) τ1 n ad hg1 (nI j)) (pv_askD hg1 (by omega) 4) q_250 q_251 q_252 q_1 q_253 hdX2_stateOf rfl ⟨Nat.le_of_ble_eq_true rfl, Nat.le_of_ble_eq_true rfl⟩ (Nat.le_of_ble_eq_true rfl) dL_works_472 rfl (13) (78) ⟨Nat.le_of_ble_eq_true rfl, Nat.le_of_ble_eq_true rfl⟩ ⟨Nat.le_of_ble_eq_true rfl, Nat.le_of_ble_eq_true rfl⟩ ?_
          refine j_iload B dL_works_475 1 rfl ?_
          refine j_if_eq B 485 dL_works_477 (by decide) (fun h20 => absurd h20 (by decide)) (fun h20 => ?_)
          refine j_iload B dL_works_480 0 rfl ?_
          refine j_goto B 487 dL_works_482 (by decide) ?_
          refine j_icmp_ne B 527 dL_works_487 (by decide) (fun h21 => (by clear B hret; grind : False).elim) (fun h21 => ?_)
          refine j_aload_n B dL_works_490 7 rfl rfl ?_
          refine j_iload_n B dL_works_491 9 rfl rfl ?_
          obtain ⟨r22, e23, h24⟩ := pv_done hg1 (by omega)
          refine j_ask B r22 1 [.int (nI j)] (c_X2_isDone l hl D cD cC cI cZ cL (pvA A ca) τ1 n ad hg1 (nI j)) e23 q_272 q_273 q_274 q_1 q_275 hdX2_isDone rfl ⟨Nat.le_of_ble_eq_true rfl, Nat.le_of_ble_eq_true rfl⟩ (Nat.le_of_ble_eq_true rfl) dL_works_492 rfl (14) (84) ⟨Nat.le_of_ble_eq_true rfl, Nat.le_of_ble_eq_true rfl⟩ ⟨Nat.le_of_ble_eq_true rfl, Nat.le_of_ble_eq_true rfl⟩ ?_
          refine j_iload B dL_works_495 1 rfl ?_
          refine j_if_eq B 504 dL_works_497 (by decide) (fun h25 => absurd h25 (by decide)) (fun h25 => ?_)
          refine j_iconst B (v := 0) dL_works_500 (by decide) ?_
          refine j_goto B 506 dL_works_501 (by decide) ?_
          refine j_icmp_ne B 527 dL_works_506 (by decide) (fun h26 => (by clear B hret; grind : False).elim) (fun h26 => ?_)
          refine j_aload_n B dL_works_509 7 rfl rfl ?_
          refine j_aload B dL_works_510 12 rfl ?_
          refine j_aload B dL_works_512 13 rfl ?_
          refine j_lconst B (v := 1) dL_works_514 (by decide) ?_
          refine j_iload_n B dL_works_515 9 rfl rfl ?_
          refine j_lshl B dL_works_516 ?_
          refine j_lawI B 4 [.ref (ad 0), .ref (ca 0), .ref (ca 1), .long ((1 : Int64) <<< ((nI j).toInt64 &&& 63))] (c_L_areSame l hl D cD cC cI cZ cL A τ1 (pgU φ 4 j (σ 2 j)) n ad ca f hg1 (by simpa [pgU] using hc0) ((1 : Int64) <<< ((nI j).toInt64 &&& 63)) (pv_same1 (pv_j64 h hj) hd hE1 (fun _ => (by simp [pgU])))) q_429 q_430 q_0 q_431 hdL_areSame rfl ⟨Nat.le_of_ble_eq_true rfl, Nat.le_of_ble_eq_true rfl⟩ (Nat.le_of_ble_eq_true rfl) dL_works_517 rfl (374) (2244) ⟨Nat.le_of_ble_eq_true rfl, Nat.le_of_ble_eq_true rfl⟩ ⟨Nat.le_of_ble_eq_true rfl, Nat.le_of_ble_eq_true rfl⟩ (fun r27 _ h28 => ?_)
          subst h28
          refine j_if_eq B 527 dL_works_520 (by decide) (fun h29 => absurd h29 (by decide)) (fun h29 => ?_)
          refine j_iconst B (v := 1) dL_works_523 (by decide) ?_
          refine j_goto B 528 dL_works_524 (by decide) ?_
          exact hret 528 _ 1 (τ1, pgU φ 4 j (σ 2 j), f) (374) (2244) dL_works_528 rfl (Nat.le_of_ble_eq_true rfl) (Nat.le_of_ble_eq_true rfl) ⟨rfl, show pvI n τ1 (pgU φ 4 j (σ 2 j)) (f 0) (Bd + 1) from pvI_le (Bd := Bd) (by clear B hret; grind) (by omega)⟩
        · refine j_aload B dL_works_418 13 rfl ?_
          refine j_iload_n B dL_works_420 8 rfl rfl ?_
          refine j_pld B (k := 2) (j := j) (v := φ 2 j) (by omega) rfl (show j < 60 by omega) rfl dL_works_421 ?_
          refine j_iconst B (v := 2) dL_works_422 (by decide) ?_
          refine j_shrv B (σ 1 j) (hk2) dL_works_423 ?_
          refine j_iconst B (v := 3) dL_works_424 (by decide) ?_
          refine j_icmp_ge B 432 dL_works_425 (by decide) (fun h30 => ?_) (fun h30 => ?_)
          · refine j_iconst B (v := 2) dL_works_432 (by decide) ?_
            refine j_istore B (L' := [(16, .int 2), (15, .int 1), (14, .int t1), (13, .int r3), (12, .int r1), (11, .int (σ 2 j)), (10, .int (σ 4 j)), (0, .ref (ad 0)), (1, .int 4), (2, .int (nI j)), (3, .int (nI w)), (4, .int (nI k)), (5, .ref (ca 0)), (6, .ref (ca 1)), (7, .ref (ca 2)), (8, .ref (ca 5)), (9, .ref (ca 4))]) dL_works_433 (by decide) rfl ?_
            refine j_aload B dL_works_435 16 rfl ?_
            refine j_iload_n B dL_works_437 9 rfl rfl ?_
            refine j_iload B dL_works_438 1 rfl ?_
            refine j_if_eq B 448 dL_works_440 (by decide) (fun h31 => absurd h31 (by decide)) (fun h31 => ?_)
            refine j_iload B dL_works_443 5 rfl ?_
            refine j_goto B 452 dL_works_445 (by decide) ?_
            refine j_pst B (k := 4) (j := j) (by omega) rfl (show j < 60 by omega) dL_works_452 ?_
            refine j_iload B dL_works_453 2 rfl ?_
            refine j_iload B dL_works_455 1 rfl ?_
            refine j_if_eq B 465 dL_works_457 (by decide) (fun h32 => absurd h32 (by decide)) (fun h32 => ?_)
            refine j_iload B dL_works_460 0 rfl ?_
            refine j_goto B 467 dL_works_462 (by decide) ?_
            refine j_icmp_ne B 527 dL_works_467 (by decide) (fun h33 => (by clear B hret; grind : False).elim) (fun h33 => ?_)
            refine j_aload_n B dL_works_470 7 rfl rfl ?_
            refine j_iload_n B dL_works_471 9 rfl rfl ?_
            refine j_ask B (τ1 4 j) 1 [.int (nI j)] (c_X2_stateOf l hl D cD cC cI cZ cL (pvA A ca) τ1 n ad hg1 (nI j)) (pv_askD hg1 (by omega) 4) q_250 q_251 q_252 q_1 q_253 hdX2_stateOf rfl ⟨Nat.le_of_ble_eq_true rfl, Nat.le_of_ble_eq_true rfl⟩ (Nat.le_of_ble_eq_true rfl) dL_works_472 rfl (13) (78) ⟨Nat.le_of_ble_eq_true rfl, Nat.le_of_ble_eq_true rfl⟩ ⟨Nat.le_of_ble_eq_true rfl, Nat.le_of_ble_eq_true rfl⟩ ?_
            refine j_iload B dL_works_475 1 rfl ?_
            refine j_if_eq B 485 dL_works_477 (by decide) (fun h34 => absurd h34 (by decide)) (fun h34 => ?_)
            refine j_iload B dL_works_480 0 rfl ?_
            refine j_goto B 487 dL_works_482 (by decide) ?_
            refine j_icmp_ne B 527 dL_works_487 (by decide) (fun h35 => (by clear B hret; grind : False).elim) (fun h35 => ?_)
            refine j_aload_n B dL_works_490 7 rfl rfl ?_
            refine j_iload_n B dL_works_491 9 rfl rfl ?_
            obtain ⟨r36, e37, h38⟩ := pv_done hg1 (by omega)
            refine j_ask B r36 1 [.int (nI j)] (c_X2_isDone l hl D cD cC cI cZ cL (pvA A ca) τ1 n ad hg1 (nI j)) e37 q_272 q_273 q_274 q_1 q_275 hdX2_isDone rfl ⟨Nat.le_of_ble_eq_true rfl, Nat.le_of_ble_eq_true rfl⟩ (Nat.le_of_ble_eq_true rfl) dL_works_492 rfl (14) (84) ⟨Nat.le_of_ble_eq_true rfl, Nat.le_of_ble_eq_true rfl⟩ ⟨Nat.le_of_ble_eq_true rfl, Nat.le_of_ble_eq_true rfl⟩ ?_
            refine j_iload B dL_works_495 1 rfl ?_
            refine j_if_eq B 504 dL_works_497 (by decide) (fun h39 => absurd h39 (by decide)) (fun h39 => ?_)
            refine j_iconst B (v := 0) dL_works_500 (by decide) ?_
            refine j_goto B 506 dL_works_501 (by decide) ?_
            refine j_icmp_ne B 527 dL_works_506 (by decide) (fun h40 => (by clear B hret; grind : False).elim) (fun h40 => ?_)
            refine j_aload_n B dL_works_509 7 rfl rfl ?_
            refine j_aload B dL_works_510 12 rfl ?_
            refine j_aload B dL_works_512 13 rfl ?_
            refine j_lconst B (v := 1) dL_works_514 (by decide) ?_
            refine j_iload_n B dL_works_515 9 rfl rfl ?_
            refine j_lshl B dL_works_516 ?_
            refine j_lawI B 4 [.ref (ad 0), .ref (ca 0), .ref (ca 1), .long ((1 : Int64) <<< ((nI j).toInt64 &&& 63))] (c_L_areSame l hl D cD cC cI cZ cL A τ1 (pgU φ 4 j (σ 2 j)) n ad ca f hg1 (by simpa [pgU] using hc0) ((1 : Int64) <<< ((nI j).toInt64 &&& 63)) (pv_same1 (pv_j64 h hj) hd hE1 (fun _ => (by simp [pgU])))) q_429 q_430 q_0 q_431 hdL_areSame rfl ⟨Nat.le_of_ble_eq_true rfl, Nat.le_of_ble_eq_true rfl⟩ (Nat.le_of_ble_eq_true rfl) dL_works_517 rfl (374) (2244) ⟨Nat.le_of_ble_eq_true rfl, Nat.le_of_ble_eq_true rfl⟩ ⟨Nat.le_of_ble_eq_true rfl, Nat.le_of_ble_eq_true rfl⟩ (fun r41 _ h42 => ?_)
            subst h42
            refine j_if_eq B 527 dL_works_520 (by decide) (fun h43 => absurd h43 (by decide)) (fun h43 => ?_)
            refine j_iconst B (v := 1) dL_works_523 (by decide) ?_
            refine j_goto B 528 dL_works_524 (by decide) ?_
            exact hret 528 _ 1 (τ1, pgU φ 4 j (σ 2 j), f) (374) (2244) dL_works_528 rfl (Nat.le_of_ble_eq_true rfl) (Nat.le_of_ble_eq_true rfl) ⟨rfl, show pvI n τ1 (pgU φ 4 j (σ 2 j)) (f 0) (Bd + 1) from pvI_le (Bd := Bd) (by clear B hret; grind) (by omega)⟩
          · refine j_iconst B (v := 1) dL_works_428 (by decide) ?_
            refine j_goto B 433 dL_works_429 (by decide) ?_
            refine j_istore B (L' := [(16, .int 1), (15, .int 1), (14, .int t1), (13, .int r3), (12, .int r1), (11, .int (σ 2 j)), (10, .int (σ 4 j)), (0, .ref (ad 0)), (1, .int 4), (2, .int (nI j)), (3, .int (nI w)), (4, .int (nI k)), (5, .ref (ca 0)), (6, .ref (ca 1)), (7, .ref (ca 2)), (8, .ref (ca 5)), (9, .ref (ca 4))]) dL_works_433 (by decide) rfl ?_
            refine j_aload B dL_works_435 16 rfl ?_
            refine j_iload_n B dL_works_437 9 rfl rfl ?_
            refine j_iload B dL_works_438 1 rfl ?_
            refine j_if_eq B 448 dL_works_440 (by decide) (fun h44 => absurd h44 (by decide)) (fun h44 => ?_)
            refine j_iload B dL_works_443 5 rfl ?_
            refine j_goto B 452 dL_works_445 (by decide) ?_
            refine j_pst B (k := 4) (j := j) (by omega) rfl (show j < 60 by omega) dL_works_452 ?_
            refine j_iload B dL_works_453 2 rfl ?_
            refine j_iload B dL_works_455 1 rfl ?_
            refine j_if_eq B 465 dL_works_457 (by decide) (fun h45 => absurd h45 (by decide)) (fun h45 => ?_)
            refine j_iload B dL_works_460 0 rfl ?_
            refine j_goto B 467 dL_works_462 (by decide) ?_
            refine j_icmp_ne B 527 dL_works_467 (by decide) (fun h46 => (by clear B hret; grind : False).elim) (fun h46 => ?_)
            refine j_aload_n B dL_works_470 7 rfl rfl ?_
            refine j_iload_n B dL_works_471 9 rfl rfl ?_
            refine j_ask B (τ1 4 j) 1 [.int (nI j)] (c_X2_stateOf l hl D cD cC cI cZ cL (pvA A ca) τ1 n ad hg1 (nI j)) (pv_askD hg1 (by omega) 4) q_250 q_251 q_252 q_1 q_253 hdX2_stateOf rfl ⟨Nat.le_of_ble_eq_true rfl, Nat.le_of_ble_eq_true rfl⟩ (Nat.le_of_ble_eq_true rfl) dL_works_472 rfl (13) (78) ⟨Nat.le_of_ble_eq_true rfl, Nat.le_of_ble_eq_true rfl⟩ ⟨Nat.le_of_ble_eq_true rfl, Nat.le_of_ble_eq_true rfl⟩ ?_
            refine j_iload B dL_works_475 1 rfl ?_
            refine j_if_eq B 485 dL_works_477 (by decide) (fun h47 => absurd h47 (by decide)) (fun h47 => ?_)
            refine j_iload B dL_works_480 0 rfl ?_
            refine j_goto B 487 dL_works_482 (by decide) ?_
            refine j_icmp_ne B 527 dL_works_487 (by decide) (fun h48 => (by clear B hret; grind : False).elim) (fun h48 => ?_)
            refine j_aload_n B dL_works_490 7 rfl rfl ?_
            refine j_iload_n B dL_works_491 9 rfl rfl ?_
            obtain ⟨r49, e50, h51⟩ := pv_done hg1 (by omega)
            refine j_ask B r49 1 [.int (nI j)] (c_X2_isDone l hl D cD cC cI cZ cL (pvA A ca) τ1 n ad hg1 (nI j)) e50 q_272 q_273 q_274 q_1 q_275 hdX2_isDone rfl ⟨Nat.le_of_ble_eq_true rfl, Nat.le_of_ble_eq_true rfl⟩ (Nat.le_of_ble_eq_true rfl) dL_works_492 rfl (14) (84) ⟨Nat.le_of_ble_eq_true rfl, Nat.le_of_ble_eq_true rfl⟩ ⟨Nat.le_of_ble_eq_true rfl, Nat.le_of_ble_eq_true rfl⟩ ?_
            refine j_iload B dL_works_495 1 rfl ?_
            refine j_if_eq B 504 dL_works_497 (by decide) (fun h52 => absurd h52 (by decide)) (fun h52 => ?_)
            refine j_iconst B (v := 0) dL_works_500 (by decide) ?_
            refine j_goto B 506 dL_works_501 (by decide) ?_
            refine j_icmp_ne B 527 dL_works_506 (by decide) (fun h53 => (by clear B hret; grind : False).elim) (fun h53 => ?_)
            refine j_aload_n B dL_works_509 7 rfl rfl ?_
            refine j_aload B dL_works_510 12 rfl ?_
            refine j_aload B dL_works_512 13 rfl ?_
            refine j_lconst B (v := 1) dL_works_514 (by decide) ?_
            refine j_iload_n B dL_works_515 9 rfl rfl ?_
            refine j_lshl B dL_works_516 ?_
            refine j_lawI B 4 [.ref (ad 0), .ref (ca 0), .ref (ca 1), .long ((1 : Int64) <<< ((nI j).toInt64 &&& 63))] (c_L_areSame l hl D cD cC cI cZ cL A τ1 (pgU φ 4 j (σ 2 j)) n ad ca f hg1 (by simpa [pgU] using hc0) ((1 : Int64) <<< ((nI j).toInt64 &&& 63)) (pv_same1 (pv_j64 h hj) hd hE1 (fun _ => (by simp [pgU])))) q_429 q_430 q_0 q_431 hdL_areSame rfl ⟨Nat.le_of_ble_eq_true rfl, Nat.le_of_ble_eq_true rfl⟩ (Nat.le_of_ble_eq_true rfl) dL_works_517 rfl (374) (2244) ⟨Nat.le_of_ble_eq_true rfl, Nat.le_of_ble_eq_true rfl⟩ ⟨Nat.le_of_ble_eq_true rfl, Nat.le_of_ble_eq_true rfl⟩ (fun r54 _ h55 => ?_)
            subst h55
            refine j_if_eq B 527 dL_works_520 (by decide) (fun h56 => absurd h56 (by decide)) (fun h56 => ?_)
            refine j_iconst B (v := 1) dL_works_523 (by decide) ?_
            refine j_goto B 528 dL_works_524 (by decide) ?_
            exact hret 528 _ 1 (τ1, pgU φ 4 j (σ 2 j), f) (374) (2244) dL_works_528 rfl (Nat.le_of_ble_eq_true rfl) (Nat.le_of_ble_eq_true rfl) ⟨rfl, show pvI n τ1 (pgU φ 4 j (σ 2 j)) (f 0) (Bd + 1) from pvI_le (Bd := Bd) (by clear B hret; grind) (by omega)⟩
      · refine j_istore B (L' := [(15, .int 0), (14, .int t1), (13, .int r3), (12, .int r1), (11, .int (σ 2 j)), (10, .int (σ 4 j)), (0, .ref (ad 0)), (1, .int 4), (2, .int (nI j)), (3, .int (nI w)), (4, .int (nI k)), (5, .ref (ca 0)), (6, .ref (ca 1)), (7, .ref (ca 2)), (8, .ref (ca 5)), (9, .ref (ca 4))]) dL_works_404 (by decide) rfl ?_
        refine j_iload_n B dL_works_406 9 rfl rfl ?_
        refine j_iconst B (v := 3) dL_works_407 (by decide) ?_
        refine j_remv B (nI w) ((pv_rem (b := 3) (by omega) (by omega) (by omega)).trans (congrArg nI (Nat.mod_eq_of_lt hw))) (by decide) dL_works_408 ?_
        refine j_aload B dL_works_409 13 rfl ?_
        refine j_iload_n B dL_works_411 8 rfl rfl ?_
        refine j_pld B (k := 2) (j := j) (v := φ 2 j) (by omega) rfl (show j < 60 by omega) rfl dL_works_412 ?_
        refine j_iconst B (v := 3) dL_works_413 (by decide) ?_
        refine j_andv B (σ 0 j) (hk3) dL_works_414 ?_
        refine j_icmp_ne B 432 dL_works_415 (by decide) (fun h57 => ?_) (fun h57 => ?_)
        · refine j_iconst B (v := 2) dL_works_432 (by decide) ?_
          refine j_istore B (L' := [(16, .int 2), (15, .int 0), (14, .int t1), (13, .int r3), (12, .int r1), (11, .int (σ 2 j)), (10, .int (σ 4 j)), (0, .ref (ad 0)), (1, .int 4), (2, .int (nI j)), (3, .int (nI w)), (4, .int (nI k)), (5, .ref (ca 0)), (6, .ref (ca 1)), (7, .ref (ca 2)), (8, .ref (ca 5)), (9, .ref (ca 4))]) dL_works_433 (by decide) rfl ?_
          refine j_aload B dL_works_435 16 rfl ?_
          refine j_iload_n B dL_works_437 9 rfl rfl ?_
          refine j_iload B dL_works_438 1 rfl ?_
          refine j_if_eq B 448 dL_works_440 (by decide) (fun h58 => ?_) (fun h58 => absurd h58 (by decide))
          refine j_aload B dL_works_448 16 rfl ?_
          refine j_iload_n B dL_works_450 9 rfl rfl ?_
          refine j_pld B (k := 4) (j := j) (v := φ 4 j) (by omega) rfl (show j < 60 by omega) rfl dL_works_451 ?_
          refine j_pst B (k := 4) (j := j) (by omega) rfl (show j < 60 by omega) dL_works_452 ?_
          refine j_iload B dL_works_453 2 rfl ?_
          refine j_iload B dL_works_455 1 rfl ?_
          refine j_if_eq B 465 dL_works_457 (by decide) (fun h59 => ?_) (fun h59 => absurd h59 (by decide))
          refine j_bipush B (v := (-8)) dL_works_465 (by decide) ?_
          refine j_icmp_ne B 527 dL_works_467 (by decide) (fun h60 => (by clear B hret; grind : False).elim) (fun h60 => ?_)
          refine j_aload_n B dL_works_470 7 rfl rfl ?_
          refine j_iload_n B dL_works_471 9 rfl rfl ?_
          refine j_ask B (τ1 4 j) 1 [.int (nI j)] (c_X2_stateOf l hl D cD cC cI cZ cL (pvA A ca) τ1 n ad hg1 (nI j)) (pv_askD hg1 (by omega) 4) q_250 q_251 q_252 q_1 q_253 hdX2_stateOf rfl ⟨Nat.le_of_ble_eq_true rfl, Nat.le_of_ble_eq_true rfl⟩ (Nat.le_of_ble_eq_true rfl) dL_works_472 rfl (13) (78) ⟨Nat.le_of_ble_eq_true rfl, Nat.le_of_ble_eq_true rfl⟩ ⟨Nat.le_of_ble_eq_true rfl, Nat.le_of_ble_eq_true rfl⟩ ?_
          refine j_iload B dL_works_475 1 rfl ?_
          refine j_if_eq B 485 dL_works_477 (by decide) (fun h61 => ?_) (fun h61 => absurd h61 (by decide))
          refine j_iload B dL_works_485 6 rfl ?_
          refine j_icmp_ne B 527 dL_works_487 (by decide) (fun h62 => (by clear B hret; grind : False).elim) (fun h62 => ?_)
          refine j_aload_n B dL_works_490 7 rfl rfl ?_
          refine j_iload_n B dL_works_491 9 rfl rfl ?_
          obtain ⟨r63, e64, h65⟩ := pv_done hg1 (by omega)
          refine j_ask B r63 1 [.int (nI j)] (c_X2_isDone l hl D cD cC cI cZ cL (pvA A ca) τ1 n ad hg1 (nI j)) e64 q_272 q_273 q_274 q_1 q_275 hdX2_isDone rfl ⟨Nat.le_of_ble_eq_true rfl, Nat.le_of_ble_eq_true rfl⟩ (Nat.le_of_ble_eq_true rfl) dL_works_492 rfl (14) (84) ⟨Nat.le_of_ble_eq_true rfl, Nat.le_of_ble_eq_true rfl⟩ ⟨Nat.le_of_ble_eq_true rfl, Nat.le_of_ble_eq_true rfl⟩ ?_
          refine j_iload B dL_works_495 1 rfl ?_
          refine j_if_eq B 504 dL_works_497 (by decide) (fun h66 => ?_) (fun h66 => absurd h66 (by decide))
          refine j_iload B dL_works_504 3 rfl ?_
          refine j_icmp_ne B 527 dL_works_506 (by decide) (fun h67 => (by clear B hret; grind : False).elim) (fun h67 => ?_)
          refine j_aload_n B dL_works_509 7 rfl rfl ?_
          refine j_aload B dL_works_510 12 rfl ?_
          refine j_aload B dL_works_512 13 rfl ?_
          refine j_lconst B (v := 1) dL_works_514 (by decide) ?_
          refine j_iload_n B dL_works_515 9 rfl rfl ?_
          refine j_lshl B dL_works_516 ?_
          refine j_lawI B 4 [.ref (ad 0), .ref (ca 0), .ref (ca 1), .long ((1 : Int64) <<< ((nI j).toInt64 &&& 63))] (c_L_areSame l hl D cD cC cI cZ cL A τ1 (pgU φ 4 j (φ 4 j)) n ad ca f hg1 (by simpa [pgU] using hc0) ((1 : Int64) <<< ((nI j).toInt64 &&& 63)) (pv_same1 (pv_j64 h hj) hd hE1 (fun _ => (by simp [pgU])))) q_429 q_430 q_0 q_431 hdL_areSame rfl ⟨Nat.le_of_ble_eq_true rfl, Nat.le_of_ble_eq_true rfl⟩ (Nat.le_of_ble_eq_true rfl) dL_works_517 rfl (374) (2244) ⟨Nat.le_of_ble_eq_true rfl, Nat.le_of_ble_eq_true rfl⟩ ⟨Nat.le_of_ble_eq_true rfl, Nat.le_of_ble_eq_true rfl⟩ (fun r68 _ h69 => ?_)
          subst h69
          refine j_if_eq B 527 dL_works_520 (by decide) (fun h70 => absurd h70 (by decide)) (fun h70 => ?_)
          refine j_iconst B (v := 1) dL_works_523 (by decide) ?_
          refine j_goto B 528 dL_works_524 (by decide) ?_
          exact hret 528 _ 1 (τ1, pgU φ 4 j (φ 4 j), f) (374) (2244) dL_works_528 rfl (Nat.le_of_ble_eq_true rfl) (Nat.le_of_ble_eq_true rfl) ⟨rfl, show pvI n τ1 (pgU φ 4 j (φ 4 j)) (f 0) (Bd + 1) from pvI_le (Bd := Bd) (by clear B hret; grind) (by omega)⟩
        · refine j_aload B dL_works_418 13 rfl ?_
          refine j_iload_n B dL_works_420 8 rfl rfl ?_
          refine j_pld B (k := 2) (j := j) (v := φ 2 j) (by omega) rfl (show j < 60 by omega) rfl dL_works_421 ?_
          refine j_iconst B (v := 2) dL_works_422 (by decide) ?_
          refine j_shrv B (σ 1 j) (hk2) dL_works_423 ?_
          refine j_iconst B (v := 3) dL_works_424 (by decide) ?_
          refine j_icmp_ge B 432 dL_works_425 (by decide) (fun h71 => ?_) (fun h71 => ?_)
          · refine j_iconst B (v := 2) dL_works_432 (by decide) ?_
            refine j_istore B (L' := [(16, .int 2), (15, .int 0), (14, .int t1), (13, .int r3), (12, .int r1), (11, .int (σ 2 j)), (10, .int (σ 4 j)), (0, .ref (ad 0)), (1, .int 4), (2, .int (nI j)), (3, .int (nI w)), (4, .int (nI k)), (5, .ref (ca 0)), (6, .ref (ca 1)), (7, .ref (ca 2)), (8, .ref (ca 5)), (9, .ref (ca 4))]) dL_works_433 (by decide) rfl ?_
            refine j_aload B dL_works_435 16 rfl ?_
            refine j_iload_n B dL_works_437 9 rfl rfl ?_
            refine j_iload B dL_works_438 1 rfl ?_
            refine j_if_eq B 448 dL_works_440 (by decide) (fun h72 => ?_) (fun h72 => absurd h72 (by decide))
            refine j_aload B dL_works_448 16 rfl ?_
            refine j_iload_n B dL_works_450 9 rfl rfl ?_
            refine j_pld B (k := 4) (j := j) (v := φ 4 j) (by omega) rfl (show j < 60 by omega) rfl dL_works_451 ?_
            refine j_pst B (k := 4) (j := j) (by omega) rfl (show j < 60 by omega) dL_works_452 ?_
            refine j_iload B dL_works_453 2 rfl ?_
            refine j_iload B dL_works_455 1 rfl ?_
            refine j_if_eq B 465 dL_works_457 (by decide) (fun h73 => ?_) (fun h73 => absurd h73 (by decide))
            refine j_bipush B (v := (-8)) dL_works_465 (by decide) ?_
            refine j_icmp_ne B 527 dL_works_467 (by decide) (fun h74 => (by clear B hret; grind : False).elim) (fun h74 => ?_)
            refine j_aload_n B dL_works_470 7 rfl rfl ?_
            refine j_iload_n B dL_works_471 9 rfl rfl ?_
            refine j_ask B (τ1 4 j) 1 [.int (nI j)] (c_X2_stateOf l hl D cD cC cI cZ cL (pvA A ca) τ1 n ad hg1 (nI j)) (pv_askD hg1 (by omega) 4) q_250 q_251 q_252 q_1 q_253 hdX2_stateOf rfl ⟨Nat.le_of_ble_eq_true rfl, Nat.le_of_ble_eq_true rfl⟩ (Nat.le_of_ble_eq_true rfl) dL_works_472 rfl (13) (78) ⟨Nat.le_of_ble_eq_true rfl, Nat.le_of_ble_eq_true rfl⟩ ⟨Nat.le_of_ble_eq_true rfl, Nat.le_of_ble_eq_true rfl⟩ ?_
            refine j_iload B dL_works_475 1 rfl ?_
            refine j_if_eq B 485 dL_works_477 (by decide) (fun h75 => ?_) (fun h75 => absurd h75 (by decide))
            refine j_iload B dL_works_485 6 rfl ?_
            refine j_icmp_ne B 527 dL_works_487 (by decide) (fun h76 => (by clear B hret; grind : False).elim) (fun h76 => ?_)
            refine j_aload_n B dL_works_490 7 rfl rfl ?_
            refine j_iload_n B dL_works_491 9 rfl rfl ?_
            obtain ⟨r77, e78, h79⟩ := pv_done hg1 (by omega)
            refine j_ask B r77 1 [.int (nI j)] (c_X2_isDone l hl D cD cC cI cZ cL (pvA A ca) τ1 n ad hg1 (nI j)) e78 q_272 q_273 q_274 q_1 q_275 hdX2_isDone rfl ⟨Nat.le_of_ble_eq_true rfl, Nat.le_of_ble_eq_true rfl⟩ (Nat.le_of_ble_eq_true rfl) dL_works_492 rfl (14) (84) ⟨Nat.le_of_ble_eq_true rfl, Nat.le_of_ble_eq_true rfl⟩ ⟨Nat.le_of_ble_eq_true rfl, Nat.le_of_ble_eq_true rfl⟩ ?_
            refine j_iload B dL_works_495 1 rfl ?_
            refine j_if_eq B 504 dL_works_497 (by decide) (fun h80 => ?_) (fun h80 => absurd h80 (by decide))
            refine j_iload B dL_works_504 3 rfl ?_
            refine j_icmp_ne B 527 dL_works_506 (by decide) (fun h81 => (by clear B hret; grind : False).elim) (fun h81 => ?_)
            refine j_aload_n B dL_works_509 7 rfl rfl ?_
            refine j_aload B dL_works_510 12 rfl ?_
            refine j_aload B dL_works_512 13 rfl ?_
            refine j_lconst B (v := 1) dL_works_514 (by decide) ?_
            refine j_iload_n B dL_works_515 9 rfl rfl ?_
            refine j_lshl B dL_works_516 ?_
            refine j_lawI B 4 [.ref (ad 0), .ref (ca 0), .ref (ca 1), .long ((1 : Int64) <<< ((nI j).toInt64 &&& 63))] (c_L_areSame l hl D cD cC cI cZ cL A τ1 (pgU φ 4 j (φ 4 j)) n ad ca f hg1 (by simpa [pgU] using hc0) ((1 : Int64) <<< ((nI j).toInt64 &&& 63)) (pv_same1 (pv_j64 h hj) hd hE1 (fun _ => (by simp [pgU])))) q_429 q_430 q_0 q_431 hdL_areSame rfl ⟨Nat.le_of_ble_eq_true rfl, Nat.le_of_ble_eq_true rfl⟩ (Nat.le_of_ble_eq_true rfl) dL_works_517 rfl (374) (2244) ⟨Nat.le_of_ble_eq_true rfl, Nat.le_of_ble_eq_true rfl⟩ ⟨Nat.le_of_ble_eq_true rfl, Nat.le_of_ble_eq_true rfl⟩ (fun r82 _ h83 => ?_)
            subst h83
            refine j_if_eq B 527 dL_works_520 (by decide) (fun h84 => absurd h84 (by decide)) (fun h84 => ?_)
            refine j_iconst B (v := 1) dL_works_523 (by decide) ?_
            refine j_goto B 528 dL_works_524 (by decide) ?_
            exact hret 528 _ 1 (τ1, pgU φ 4 j (φ 4 j), f) (374) (2244) dL_works_528 rfl (Nat.le_of_ble_eq_true rfl) (Nat.le_of_ble_eq_true rfl) ⟨rfl, show pvI n τ1 (pgU φ 4 j (φ 4 j)) (f 0) (Bd + 1) from pvI_le (Bd := Bd) (by clear B hret; grind) (by omega)⟩
          · refine j_iconst B (v := 1) dL_works_428 (by decide) ?_
            refine j_goto B 433 dL_works_429 (by decide) ?_
            refine j_istore B (L' := [(16, .int 1), (15, .int 0), (14, .int t1), (13, .int r3), (12, .int r1), (11, .int (σ 2 j)), (10, .int (σ 4 j)), (0, .ref (ad 0)), (1, .int 4), (2, .int (nI j)), (3, .int (nI w)), (4, .int (nI k)), (5, .ref (ca 0)), (6, .ref (ca 1)), (7, .ref (ca 2)), (8, .ref (ca 5)), (9, .ref (ca 4))]) dL_works_433 (by decide) rfl ?_
            refine j_aload B dL_works_435 16 rfl ?_
            refine j_iload_n B dL_works_437 9 rfl rfl ?_
            refine j_iload B dL_works_438 1 rfl ?_
            refine j_if_eq B 448 dL_works_440 (by decide) (fun h85 => ?_) (fun h85 => absurd h85 (by decide))
            refine j_aload B dL_works_448 16 rfl ?_
            refine j_iload_n B dL_works_450 9 rfl rfl ?_
            refine j_pld B (k := 4) (j := j) (v := φ 4 j) (by omega) rfl (show j < 60 by omega) rfl dL_works_451 ?_
            refine j_pst B (k := 4) (j := j) (by omega) rfl (show j < 60 by omega) dL_works_452 ?_
            refine j_iload B dL_works_453 2 rfl ?_
            refine j_iload B dL_works_455 1 rfl ?_
            refine j_if_eq B 465 dL_works_457 (by decide) (fun h86 => ?_) (fun h86 => absurd h86 (by decide))
            refine j_bipush B (v := (-8)) dL_works_465 (by decide) ?_
            refine j_icmp_ne B 527 dL_works_467 (by decide) (fun h87 => (by clear B hret; grind : False).elim) (fun h87 => ?_)
            refine j_aload_n B dL_works_470 7 rfl rfl ?_
            refine j_iload_n B dL_works_471 9 rfl rfl ?_
            refine j_ask B (τ1 4 j) 1 [.int (nI j)] (c_X2_stateOf l hl D cD cC cI cZ cL (pvA A ca) τ1 n ad hg1 (nI j)) (pv_askD hg1 (by omega) 4) q_250 q_251 q_252 q_1 q_253 hdX2_stateOf rfl ⟨Nat.le_of_ble_eq_true rfl, Nat.le_of_ble_eq_true rfl⟩ (Nat.le_of_ble_eq_true rfl) dL_works_472 rfl (13) (78) ⟨Nat.le_of_ble_eq_true rfl, Nat.le_of_ble_eq_true rfl⟩ ⟨Nat.le_of_ble_eq_true rfl, Nat.le_of_ble_eq_true rfl⟩ ?_
            refine j_iload B dL_works_475 1 rfl ?_
            refine j_if_eq B 485 dL_works_477 (by decide) (fun h88 => ?_) (fun h88 => absurd h88 (by decide))
            refine j_iload B dL_works_485 6 rfl ?_
            refine j_icmp_ne B 527 dL_works_487 (by decide) (fun h89 => (by clear B hret; grind : False).elim) (fun h89 => ?_)
            refine j_aload_n B dL_works_490 7 rfl rfl ?_
            refine j_iload_n B dL_works_491 9 rfl rfl ?_
            obtain ⟨r90, e91, h92⟩ := pv_done hg1 (by omega)
            refine j_ask B r90 1 [.int (nI j)] (c_X2_isDone l hl D cD cC cI cZ cL (pvA A ca) τ1 n ad hg1 (nI j)) e91 q_272 q_273 q_274 q_1 q_275 hdX2_isDone rfl ⟨Nat.le_of_ble_eq_true rfl, Nat.le_of_ble_eq_true rfl⟩ (Nat.le_of_ble_eq_true rfl) dL_works_492 rfl (14) (84) ⟨Nat.le_of_ble_eq_true rfl, Nat.le_of_ble_eq_true rfl⟩ ⟨Nat.le_of_ble_eq_true rfl, Nat.le_of_ble_eq_true rfl⟩ ?_
            refine j_iload B dL_works_495 1 rfl ?_
            refine j_if_eq B 504 dL_works_497 (by decide) (fun h93 => ?_) (fun h93 => absurd h93 (by decide))
            refine j_iload B dL_works_504 3 rfl ?_
            refine j_icmp_ne B 527 dL_works_506 (by decide) (fun h94 => (by clear B hret; grind : False).elim) (fun h94 => ?_)
            refine j_aload_n B dL_works_509 7 rfl rfl ?_
            refine j_aload B dL_works_510 12 rfl ?_
            refine j_aload B dL_works_512 13 rfl ?_
            refine j_lconst B (v := 1) dL_works_514 (by decide) ?_
            refine j_iload_n B dL_works_515 9 rfl rfl ?_
            refine j_lshl B dL_works_516 ?_
            refine j_lawI B 4 [.ref (ad 0), .ref (ca 0), .ref (ca 1), .long ((1 : Int64) <<< ((nI j).toInt64 &&& 63))] (c_L_areSame l hl D cD cC cI cZ cL A τ1 (pgU φ 4 j (φ 4 j)) n ad ca f hg1 (by simpa [pgU] using hc0) ((1 : Int64) <<< ((nI j).toInt64 &&& 63)) (pv_same1 (pv_j64 h hj) hd hE1 (fun _ => (by simp [pgU])))) q_429 q_430 q_0 q_431 hdL_areSame rfl ⟨Nat.le_of_ble_eq_true rfl, Nat.le_of_ble_eq_true rfl⟩ (Nat.le_of_ble_eq_true rfl) dL_works_517 rfl (374) (2244) ⟨Nat.le_of_ble_eq_true rfl, Nat.le_of_ble_eq_true rfl⟩ ⟨Nat.le_of_ble_eq_true rfl, Nat.le_of_ble_eq_true rfl⟩ (fun r95 _ h96 => ?_)
            subst h96
            refine j_if_eq B 527 dL_works_520 (by decide) (fun h97 => absurd h97 (by decide)) (fun h97 => ?_)
            refine j_iconst B (v := 1) dL_works_523 (by decide) ?_
            refine j_goto B 528 dL_works_524 (by decide) ?_
            exact hret 528 _ 1 (τ1, pgU φ 4 j (φ 4 j), f) (374) (2244) dL_works_528 rfl (Nat.le_of_ble_eq_true rfl) (Nat.le_of_ble_eq_true rfl) ⟨rfl, show pvI n τ1 (pgU φ 4 j (φ 4 j)) (f 0) (Bd + 1) from pvI_le (Bd := Bd) (by clear B hret; grind) (by omega)⟩
    rcases h2 with ⟨rfl, h98⟩ | ⟨rfl, h98⟩
    · refine j_if_eq B 403 dL_works_384 (by decide) (fun h99 => absurd h99 (by decide)) (fun h99 => ?_)
      refine j_iload B dL_works_387 4 rfl ?_
      refine j_iconst B (v := 1) dL_works_389 (by decide) ?_
      refine j_icmp_eq B 403 dL_works_390 (by decide) (fun h100 => ?_) (fun h100 => ?_)
      · refine j_iconst B (v := 0) dL_works_403 (by decide) ?_
        exact kj12 0 (Or.inr ⟨rfl, by clear B hret kj12; grind⟩)
      · refine j_iload B dL_works_393 4 rfl ?_
        refine j_iconst B (v := 3) dL_works_395 (by decide) ?_
        refine j_icmp_eq B 403 dL_works_396 (by decide) (fun h101 => ?_) (fun h101 => ?_)
        · refine j_iconst B (v := 0) dL_works_403 (by decide) ?_
          exact kj12 0 (Or.inr ⟨rfl, by clear B hret kj12; grind⟩)
        · refine j_iconst B (v := 1) dL_works_399 (by decide) ?_
          refine j_goto B 404 dL_works_400 (by decide) ?_
          exact kj12 1 (Or.inl ⟨rfl, by clear B hret kj12; grind⟩)
    · refine j_if_eq B 403 dL_works_384 (by decide) (fun h102 => ?_) (fun h102 => absurd h102 (by decide))
      refine j_iconst B (v := 0) dL_works_403 (by decide) ?_
      exact kj12 0 (Or.inr ⟨rfl, by clear B hret kj12; grind⟩)
  · refine j_iload B dL_works_255 0 rfl ?_
    refine j_bipush B (v := (-9)) dL_works_257 (by decide) ?_
    refine j_icmp_ne B 278 dL_works_259 (by decide) (fun h103 => (by clear B hret; grind : False).elim) (fun h103 => ?_)
    refine j_aload_n B dL_works_262 5 rfl rfl ?_
    refine j_aload B dL_works_263 10 rfl ?_
    refine j_aload B dL_works_265 11 rfl ?_
    refine j_lconst B (v := 0) dL_works_267 (by decide) ?_
    refine j_lawI B 4 [.ref (ad 0), .ref (ca 0), .ref (ca 1), .long 0] (c_L_areSame l hl D cD cC cI cZ cL A τ1 φ n ad ca f hg1 (hc0) 0 (pv_same0 hd ((hA1 (by assumption)).2.1) (fun _ => rfl))) q_429 q_430 q_0 q_431 hdL_areSame rfl ⟨Nat.le_of_ble_eq_true rfl, Nat.le_of_ble_eq_true rfl⟩ (Nat.le_of_ble_eq_true rfl) dL_works_268 rfl (372) (2232) ⟨Nat.le_of_ble_eq_true rfl, Nat.le_of_ble_eq_true rfl⟩ ⟨Nat.le_of_ble_eq_true rfl, Nat.le_of_ble_eq_true rfl⟩ (fun r104 _ h105 => ?_)
    subst h105
    refine j_if_eq B 278 dL_works_271 (by decide) (fun h106 => absurd h106 (by decide)) (fun h106 => ?_)
    refine j_iconst B (v := 1) dL_works_274 (by decide) ?_
    refine j_goto B 279 dL_works_275 (by decide) ?_
    exact hret 279 _ 1 (τ1, φ, f) (372) (2232) dL_works_279 rfl (Nat.le_of_ble_eq_true rfl) (Nat.le_of_ble_eq_true rfl) ⟨rfl, show pvI n τ1 (φ) (f 0) (Bd + 1) from pvI_le (Bd := Bd) (by clear B hret; grind) (by omega)⟩
/-- works_5 -/
abbrev rm_works_5 : Room := { frames := 10, cells := 374, slots := 2244, locals := 172 }
set_option maxHeartbeats 4000000 in
set_option maxRecDepth 100000 in
theorem c_L_works_5 (l : Launch) (hl : l.stackTraces = false) (D : va_G) (cD cC cI cZ cL : ClassId) (A : Nat → Prop) (σ φ : pgSt) (n : Nat) (ad ca : Nat → Nat) (f : Nat → Int64) (Bd : Nat) (h : pvI n σ φ (f 0) Bd) (hd : ∀ i, i < n → φ 1 i = pvE σ i) (j : Nat) (hj : j < n) (x : Int32) (k : Nat) (hk : k < 8) : Met l yL_works (.code yL_works cL_works 18 (some .boolean) :: pgWd) rm_works_5 (pgPc D (pgTys cD cC cI cZ cL) A (pvW D cD cC cI cL A σ n ad φ ca f) [.ref (ad 0), .int 5, .int (nI j), .int x, .int (nI k), .ref (ca 0), .ref (ca 1), .ref (ca 2), .ref (ca 5), .ref (ca 4)]) (va_Qi (fun (r : Int32) (u : pgSt × pgSt × (Nat → Int64)) => r = 1 ∧ pvI n u.1 u.2.1 (u.2.2 0) (Bd + 1)) (fun u t9 => (pvW D cD cC cI cL A u.1 n ad u.2.1 ca u.2.2) t9.heap) A) rm_works_5.cells rm_works_5.slots A := by
  refine pv_enter (own := RL) (by decide) rfl (Nat.le_of_ble_eq_true rfl) (fun p e s m args below meth cc9 Q B hret => ?_)
  have hG := h.1
  have hn60 : n ≤ 60 := hG.1
  have hc0 : φ 0 0 = nI n := h.2.1.1
  have hm := h.2.2.2.2.2.2
  refine j_aload_n B dL_works_0 0 rfl rfl ?_
  refine j_iload_n B dL_works_1 2 rfl rfl ?_
  refine j_ask B (σ 4 j) 1 [.int (nI j)] (c_X2_stateOf l hl D cD cC cI cZ cL (pvA A ca) σ n ad hG (nI j)) (pv_askD hG (by omega) 4) q_250 q_251 q_252 q_1 q_253 hdX2_stateOf rfl ⟨Nat.le_of_ble_eq_true rfl, Nat.le_of_ble_eq_true rfl⟩ (Nat.le_of_ble_eq_true rfl) dL_works_2 rfl (1) (6) ⟨Nat.le_of_ble_eq_true rfl, Nat.le_of_ble_eq_true rfl⟩ ⟨Nat.le_of_ble_eq_true rfl, Nat.le_of_ble_eq_true rfl⟩ ?_
  refine j_istore B (L' := [(10, .int (σ 4 j)), (0, .ref (ad 0)), (1, .int 5), (2, .int (nI j)), (3, .int x), (4, .int (nI k)), (5, .ref (ca 0)), (6, .ref (ca 1)), (7, .ref (ca 2)), (8, .ref (ca 5)), (9, .ref (ca 4))]) dL_works_5 (by decide) rfl ?_
  refine j_aload_n B dL_works_7 1 rfl rfl ?_
  refine j_iload_n B dL_works_8 3 rfl rfl ?_
  refine j_ask B (σ 2 j) 1 [.int (nI j)] (c_X2_keeperOf l hl D cD cC cI cZ cL (pvA A ca) σ n ad hG (nI j)) (pv_askD hG (by omega) 2) q_241 q_242 q_243 q_1 q_244 hdX2_keeperOf rfl ⟨Nat.le_of_ble_eq_true rfl, Nat.le_of_ble_eq_true rfl⟩ (Nat.le_of_ble_eq_true rfl) dL_works_9 rfl (2) (12) ⟨Nat.le_of_ble_eq_true rfl, Nat.le_of_ble_eq_true rfl⟩ ⟨Nat.le_of_ble_eq_true rfl, Nat.le_of_ble_eq_true rfl⟩ ?_
  refine j_istore B (L' := [(11, .int (σ 2 j)), (10, .int (σ 4 j)), (0, .ref (ad 0)), (1, .int 5), (2, .int (nI j)), (3, .int x), (4, .int (nI k)), (5, .ref (ca 0)), (6, .ref (ca 1)), (7, .ref (ca 2)), (8, .ref (ca 5)), (9, .ref (ca 4))]) dL_works_12 (by decide) rfl ?_
  refine j_aload_n B dL_works_14 2 rfl rfl ?_
  refine j_aload B dL_works_15 10 rfl ?_
  refine j_iload_n B dL_works_17 4 rfl rfl ?_
  refine j_lawI B 3 [.ref (ad 0), .ref (ca 5), .int (nI j)] (c_L_isFree l hl D cD cC cI cZ cL A σ φ n ad ca f hG j (by omega) (hm j (by omega))) q_287 q_288 q_0 q_289 hdL_isFree rfl ⟨Nat.le_of_ble_eq_true rfl, Nat.le_of_ble_eq_true rfl⟩ (Nat.le_of_ble_eq_true rfl) dL_works_18 rfl (6) (36) ⟨Nat.le_of_ble_eq_true rfl, Nat.le_of_ble_eq_true rfl⟩ ⟨Nat.le_of_ble_eq_true rfl, Nat.le_of_ble_eq_true rfl⟩ (fun r1 _ h2 => ?_)
  refine j_istore B (L' := [(12, .int r1), (11, .int (σ 2 j)), (10, .int (σ 4 j)), (0, .ref (ad 0)), (1, .int 5), (2, .int (nI j)), (3, .int x), (4, .int (nI k)), (5, .ref (ca 0)), (6, .ref (ca 1)), (7, .ref (ca 2)), (8, .ref (ca 5)), (9, .ref (ca 4))]) dL_works_21 (by decide) rfl ?_
  refine j_aload_n B dL_works_23 3 rfl rfl ?_
  refine j_iload_n B dL_works_24 5 rfl rfl ?_
  obtain ⟨r3, e4, h5⟩ := pv_done hG (by omega)
  refine j_ask B r3 1 [.int (nI j)] (c_X2_isDone l hl D cD cC cI cZ cL (pvA A ca) σ n ad hG (nI j)) e4 q_272 q_273 q_274 q_1 q_275 hdX2_isDone rfl ⟨Nat.le_of_ble_eq_true rfl, Nat.le_of_ble_eq_true rfl⟩ (Nat.le_of_ble_eq_true rfl) dL_works_25 rfl (7) (42) ⟨Nat.le_of_ble_eq_true rfl, Nat.le_of_ble_eq_true rfl⟩ ⟨Nat.le_of_ble_eq_true rfl, Nat.le_of_ble_eq_true rfl⟩ ?_
  refine j_istore B (L' := [(13, .int r3), (12, .int r1), (11, .int (σ 2 j)), (10, .int (σ 4 j)), (0, .ref (ad 0)), (1, .int 5), (2, .int (nI j)), (3, .int x), (4, .int (nI k)), (5, .ref (ca 0)), (6, .ref (ca 1)), (7, .ref (ca 2)), (8, .ref (ca 5)), (9, .ref (ca 4))]) dL_works_28 (by decide) rfl ?_
  refine j_iload_n B dL_works_30 5 rfl rfl ?_
  refine j_iconst B (v := 4) dL_works_31 (by decide) ?_
  refine j_icmp_ne B 49 dL_works_32 (by decide) (fun h6 => ?_) (fun h6 => absurd h6 (by decide))
  refine j_iload_n B dL_works_49 5 rfl rfl ?_
  refine j_iconst B (v := 5) dL_works_50 (by decide) ?_
  refine j_icmp_ne B 66 dL_works_51 (by decide) (fun h7 => absurd h7 (by decide)) (fun h7 => ?_)
  refine j_aload_n B dL_works_54 4 rfl rfl ?_
  refine j_iconst B (v := 5) dL_works_55 (by decide) ?_
  refine j_iload_n B dL_works_56 6 rfl rfl ?_
  refine j_iload B dL_works_57 8 rfl ?_
  refine j_iconst B (v := 0) dL_works_59 (by decide) ?_
  obtain ⟨t1, τ1, et, eτ, hS1, hI1, hE1, hA1, hB1, hC1⟩ := pv_smash h hj hk
  have hM := c_L_asks_5 l hl D cD cC cI cZ cL A σ φ n ad ca f hG (nI j) (nI k) 0 hS1
  rw [et, eτ] at hM
  refine j_lawW B 5 [.ref (ad 0), .int 5, .int (nI j), .int (nI k), .int 0] hM q_305 q_306 q_0 q_307 hdL_asks rfl ⟨Nat.le_of_ble_eq_true rfl, Nat.le_of_ble_eq_true rfl⟩ (Nat.le_of_ble_eq_true rfl) dL_works_60 rfl (12) (72) ⟨Nat.le_of_ble_eq_true rfl, Nat.le_of_ble_eq_true rfl⟩ ⟨Nat.le_of_ble_eq_true rfl, Nat.le_of_ble_eq_true rfl⟩ (fun r8 _ h9 => ?_)
  rw [h9]
  clear hM h9 r8
  refine j_goto B 78 dL_works_63 (by decide) ?_
  refine j_istore B (L' := [(14, .int t1), (13, .int r3), (12, .int r1), (11, .int (σ 2 j)), (10, .int (σ 4 j)), (0, .ref (ad 0)), (1, .int 5), (2, .int (nI j)), (3, .int x), (4, .int (nI k)), (5, .ref (ca 0)), (6, .ref (ca 1)), (7, .ref (ca 2)), (8, .ref (ca 5)), (9, .ref (ca 4))]) dL_works_78 (by decide) rfl ?_
  refine j_iload_n B dL_works_80 6 rfl rfl ?_
  refine j_bipush B (v := 6) dL_works_81 (by decide) ?_
  refine j_icmp_ne B 248 dL_works_83 (by decide) (fun h10 => ?_) (fun h10 => absurd h10 (by decide))
  refine j_iload B dL_works_248 9 rfl ?_
  refine j_iload B dL_works_250 3 rfl ?_
  refine j_icmp_ne B 280 dL_works_252 (by decide) (fun h11 => ?_) (fun h11 => ?_)
  · refine j_iload_n B dL_works_280 6 rfl rfl ?_
    refine j_iconst B (v := 5) dL_works_281 (by decide) ?_
    refine j_icmp_ne B 382 dL_works_282 (by decide) (fun h12 => absurd h12 (by decide)) (fun h12 => ?_)
    refine j_iload B dL_works_285 2 rfl ?_
    have kj13 : ∀ v14 : Int32, (v14 = 1 ∧ (pgReach σ j ∧ σ 4 j ≠ 3) ∨ v14 = 0 ∧ ¬ (pgReach σ j ∧ σ 4 j ≠ 3)) → pgJ p l e rm_works_5 s m args below meth cc9 18 A (pvW D cD cC cI cL A τ1 n ad φ ca f) (12) (72) Q 301 [(14, .int t1), (13, .int r3), (12, .int r1), (11, .int (σ 2 j)), (10, .int (σ 4 j)), (0, .ref (ad 0)), (1, .int 5), (2, .int (nI j)), (3, .int x), (4, .int (nI k)), (5, .ref (ca 0)), (6, .ref (ca 1)), (7, .ref (ca 2)), (8, .ref (ca 5)), (9, .ref (ca 4))] (.int v14 :: []) := by
      intro v14 hv15
      rcases hv15 with ⟨rfl, h16⟩ | ⟨rfl, h16⟩
      · refine j_istore B (L' := [(15, .int 1), (14, .int t1), (13, .int r3), (12, .int r1), (11, .int (σ 2 j)), (10, .int (σ 4 j)), (0, .ref (ad 0)), (1, .int 5), (2, .int (nI j)), (3, .int x), (4, .int (nI k)), (5, .ref (ca 0)), (6, .ref (ca 1)), (7, .ref (ca 2)), (8, .ref (ca 5)), (9, .ref (ca 4))]) dL_works_301 (by decide) rfl ?_
        refine j_iload B dL_works_303 1 rfl ?_
        refine j_iload B dL_works_305 0 rfl ?_
        refine j_if_eq B 315 dL_works_307 (by decide) (fun h17 => absurd h17 (by decide)) (fun h17 => ?_)
        refine j_iload B dL_works_310 5 rfl ?_
        refine j_goto B 317 dL_works_312 (by decide) ?_
        refine j_icmp_ne B 380 dL_works_317 (by decide) (fun h18 => (by clear B hret; grind : False).elim) (fun h18 => ?_)
        refine j_aload_n B dL_works_320 6 rfl rfl ?_
        refine j_iload_n B dL_works_321 8 rfl rfl ?_
        refine j_ask B (τ1 4 j) 1 [.int (nI j)] (c_X2_stateOf l hl D cD cC cI cZ cL (pvA A ca) τ1 n ad hI1.1 (nI j)) (pv_askD hI1.1 (by omega) 4) q_250 q_251 q_252 q_1 q_253 hdX2_stateOf rfl ⟨Nat.le_of_ble_eq_true rfl, Nat.le_of_ble_eq_true rfl⟩ (Nat.le_of_ble_eq_true rfl) dL_works_322 rfl (13) (78) ⟨Nat.le_of_ble_eq_true rfl, Nat.le_of_ble_eq_true rfl⟩ ⟨Nat.le_of_ble_eq_true rfl, Nat.le_of_ble_eq_true rfl⟩ ?_
        refine j_iload B dL_works_325 0 rfl ?_
        refine j_if_eq B 334 dL_works_327 (by decide) (fun h19 => absurd h19 (by decide)) (fun h19 => ?_)
        refine j_iconst B (v := 3) dL_works_330 (by decide) ?_
        refine j_goto B 336 dL_works_331 (by decide) ?_
        refine j_icmp_ne B 380 dL_works_336 (by decide) (fun h20 => (by clear B hret; grind : False).elim) (fun h20 => ?_)
        refine j_aload_n B dL_works_339 6 rfl rfl ?_
        refine j_iload_n B dL_works_340 8 rfl rfl ?_
        obtain ⟨r21, e22, h23⟩ := pv_done hI1.1 (by omega)
        refine j_ask B r21 1 [.int (nI j)] (c_X2_isDone l hl D cD cC cI cZ cL (pvA A ca) τ1 n ad hI1.1 (nI j)) e22 q_272 q_273 q_274 q_1 q_275 hdX2_isDone rfl ⟨Nat.le_of_ble_eq_true rfl, Nat.le_of_ble_eq_true rfl⟩ (Nat.le_of_ble_eq_true rfl) dL_works_341 rfl (14) (84) ⟨Nat.le_of_ble_eq_true rfl, Nat.le_of_ble_eq_true rfl⟩ ⟨Nat.le_of_ble_eq_true rfl, Nat.le_of_ble_eq_true rfl⟩ ?_
        refine j_iload B dL_works_344 0 rfl ?_
        refine j_if_ne B 354 dL_works_346 (by decide) (fun h24 => ?_) (fun h24 => absurd h24 (by decide))
        refine j_iconst B (v := 1) dL_works_354 (by decide) ?_
        refine j_goto B 359 dL_works_355 (by decide) ?_
        refine j_icmp_ne B 380 dL_works_359 (by decide) (fun h25 => (by clear B hret; grind : False).elim) (fun h25 => ?_)
        refine j_aload_n B dL_works_362 6 rfl rfl ?_
        refine j_aload B dL_works_363 11 rfl ?_
        refine j_aload B dL_works_365 12 rfl ?_
        refine j_lconst B (v := 1) dL_works_367 (by decide) ?_
        refine j_iload_n B dL_works_368 8 rfl rfl ?_
        refine j_lshl B dL_works_369 ?_
        refine j_lawI B 4 [.ref (ad 0), .ref (ca 0), .ref (ca 1), .long ((1 : Int64) <<< ((nI j).toInt64 &&& 63))] (c_L_areSame l hl D cD cC cI cZ cL A τ1 φ n ad ca f hI1.1 (hc0) ((1 : Int64) <<< ((nI j).toInt64 &&& 63)) (pv_same1 (pv_j64 h hj) hd hE1 (fun _ => rfl))) q_429 q_430 q_0 q_431 hdL_areSame rfl ⟨Nat.le_of_ble_eq_true rfl, Nat.le_of_ble_eq_true rfl⟩ (Nat.le_of_ble_eq_true rfl) dL_works_370 rfl (374) (2244) ⟨Nat.le_of_ble_eq_true rfl, Nat.le_of_ble_eq_true rfl⟩ ⟨Nat.le_of_ble_eq_true rfl, Nat.le_of_ble_eq_true rfl⟩ (fun r26 _ h27 => ?_)
        subst h27
        refine j_if_eq B 380 dL_works_373 (by decide) (fun h28 => absurd h28 (by decide)) (fun h28 => ?_)
        refine j_iconst B (v := 1) dL_works_376 (by decide) ?_
        refine j_goto B 381 dL_works_377 (by decide) ?_
        exact hret 381 _ 1 (τ1, φ, f) (374) (2244) dL_works_381 rfl (Nat.le_of_ble_eq_true rfl) (Nat.le_of_ble_eq_true rfl) ⟨rfl, pvI_le hI1 (by omega)⟩
      · refine j_istore B (L' := [(15, .int 0), (14, .int t1), (13, .int r3), (12, .int r1), (11, .int (σ 2 j)), (10, .int (σ 4 j)), (0, .ref (ad 0)), (1, .int 5), (2, .int (nI j)), (3, .int x), (4, .int (nI k)), (5, .ref (ca 0)), (6, .ref (ca 1)), (7, .ref (ca 2)), (8, .ref (ca 5)), (9, .ref (ca 4))]) dL_works_301 (by decide) rfl ?_
        refine j_iload B dL_works_303 1 rfl ?_
        refine j_iload B dL_works_305 0 rfl ?_
        refine j_if_eq B 315 dL_works_307 (by decide) (fun h29 => ?_) (fun h29 => absurd h29 (by decide))
        refine j_bipush B (v := (-8)) dL_works_315 (by decide) ?_
        refine j_icmp_ne B 380 dL_works_317 (by decide) (fun h30 => (by clear B hret; grind : False).elim) (fun h30 => ?_)
        refine j_aload_n B dL_works_320 6 rfl rfl ?_
        refine j_iload_n B dL_works_321 8 rfl rfl ?_
        refine j_ask B (τ1 4 j) 1 [.int (nI j)] (c_X2_stateOf l hl D cD cC cI cZ cL (pvA A ca) τ1 n ad hI1.1 (nI j)) (pv_askD hI1.1 (by omega) 4) q_250 q_251 q_252 q_1 q_253 hdX2_stateOf rfl ⟨Nat.le_of_ble_eq_true rfl, Nat.le_of_ble_eq_true rfl⟩ (Nat.le_of_ble_eq_true rfl) dL_works_322 rfl (13) (78) ⟨Nat.le_of_ble_eq_true rfl, Nat.le_of_ble_eq_true rfl⟩ ⟨Nat.le_of_ble_eq_true rfl, Nat.le_of_ble_eq_true rfl⟩ ?_
        refine j_iload B dL_works_325 0 rfl ?_
        refine j_if_eq B 334 dL_works_327 (by decide) (fun h31 => ?_) (fun h31 => absurd h31 (by decide))
        refine j_iload B dL_works_334 5 rfl ?_
        refine j_icmp_ne B 380 dL_works_336 (by decide) (fun h32 => (by clear B hret; grind : False).elim) (fun h32 => ?_)
        refine j_aload_n B dL_works_339 6 rfl rfl ?_
        refine j_iload_n B dL_works_340 8 rfl rfl ?_
        obtain ⟨r33, e34, h35⟩ := pv_done hI1.1 (by omega)
        refine j_ask B r33 1 [.int (nI j)] (c_X2_isDone l hl D cD cC cI cZ cL (pvA A ca) τ1 n ad hI1.1 (nI j)) e34 q_272 q_273 q_274 q_1 q_275 hdX2_isDone rfl ⟨Nat.le_of_ble_eq_true rfl, Nat.le_of_ble_eq_true rfl⟩ (Nat.le_of_ble_eq_true rfl) dL_works_341 rfl (14) (84) ⟨Nat.le_of_ble_eq_true rfl, Nat.le_of_ble_eq_true rfl⟩ ⟨Nat.le_of_ble_eq_true rfl, Nat.le_of_ble_eq_true rfl⟩ ?_
        refine j_iload B dL_works_344 0 rfl ?_
        refine j_if_ne B 354 dL_works_346 (by decide) (fun h36 => absurd h36 (by decide)) (fun h36 => ?_)
        refine j_iload B dL_works_349 2 rfl ?_
        rcases h5 with ⟨rfl, h37⟩ | ⟨rfl, h37⟩
        · refine j_if_eq B 358 dL_works_351 (by decide) (fun h38 => absurd h38 (by decide)) (fun h38 => ?_)
          refine j_iconst B (v := 1) dL_works_354 (by decide) ?_
          refine j_goto B 359 dL_works_355 (by decide) ?_
          refine j_icmp_ne B 380 dL_works_359 (by decide) (fun h39 => (by clear B hret; grind : False).elim) (fun h39 => ?_)
          refine j_aload_n B dL_works_362 6 rfl rfl ?_
          refine j_aload B dL_works_363 11 rfl ?_
          refine j_aload B dL_works_365 12 rfl ?_
          refine j_lconst B (v := 1) dL_works_367 (by decide) ?_
          refine j_iload_n B dL_works_368 8 rfl rfl ?_
          refine j_lshl B dL_works_369 ?_
          refine j_lawI B 4 [.ref (ad 0), .ref (ca 0), .ref (ca 1), .long ((1 : Int64) <<< ((nI j).toInt64 &&& 63))] (c_L_areSame l hl D cD cC cI cZ cL A τ1 φ n ad ca f hI1.1 (hc0) ((1 : Int64) <<< ((nI j).toInt64 &&& 63)) (pv_same1 (pv_j64 h hj) hd hE1 (fun _ => rfl))) q_429 q_430 q_0 q_431 hdL_areSame rfl ⟨Nat.le_of_ble_eq_true rfl, Nat.le_of_ble_eq_true rfl⟩ (Nat.le_of_ble_eq_true rfl) dL_works_370 rfl (374) (2244) ⟨Nat.le_of_ble_eq_true rfl, Nat.le_of_ble_eq_true rfl⟩ ⟨Nat.le_of_ble_eq_true rfl, Nat.le_of_ble_eq_true rfl⟩ (fun r40 _ h41 => ?_)
          subst h41
          refine j_if_eq B 380 dL_works_373 (by decide) (fun h42 => absurd h42 (by decide)) (fun h42 => ?_)
          refine j_iconst B (v := 1) dL_works_376 (by decide) ?_
          refine j_goto B 381 dL_works_377 (by decide) ?_
          exact hret 381 _ 1 (τ1, φ, f) (374) (2244) dL_works_381 rfl (Nat.le_of_ble_eq_true rfl) (Nat.le_of_ble_eq_true rfl) ⟨rfl, pvI_le hI1 (by omega)⟩
        · refine j_if_eq B 358 dL_works_351 (by decide) (fun h43 => ?_) (fun h43 => absurd h43 (by decide))
          refine j_iconst B (v := 0) dL_works_358 (by decide) ?_
          refine j_icmp_ne B 380 dL_works_359 (by decide) (fun h44 => (by clear B hret; grind : False).elim) (fun h44 => ?_)
          refine j_aload_n B dL_works_362 6 rfl rfl ?_
          refine j_aload B dL_works_363 11 rfl ?_
          refine j_aload B dL_works_365 12 rfl ?_
          refine j_lconst B (v := 1) dL_works_367 (by decide) ?_
          refine j_iload_n B dL_works_368 8 rfl rfl ?_
          refine j_lshl B dL_works_369 ?_
          refine j_lawI B 4 [.ref (ad 0), .ref (ca 0), .ref (ca 1), .long ((1 : Int64) <<< ((nI j).toInt64 &&& 63))] (c_L_areSame l hl D cD cC cI cZ cL A τ1 φ n ad ca f hI1.1 (hc0) ((1 : Int64) <<< ((nI j).toInt64 &&& 63)) (pv_same1 (pv_j64 h hj) hd hE1 (fun _ => rfl))) q_429 q_430 q_0 q_431 hdL_areSame rfl ⟨Nat.le_of_ble_eq_true rfl, Nat.le_of_ble_eq_true rfl⟩ (Nat.le_of_ble_eq_true rfl) dL_works_370 rfl (374) (2244) ⟨Nat.le_of_ble_eq_true rfl, Nat.le_of_ble_eq_true rfl⟩ ⟨Nat.le_of_ble_eq_true rfl, Nat.le_of_ble_eq_true rfl⟩ (fun r45 _ h46 => ?_)
          subst h46
          refine j_if_eq B 380 dL_works_373 (by decide) (fun h47 => absurd h47 (by decide)) (fun h47 => ?_)
          refine j_iconst B (v := 1) dL_works_376 (by decide) ?_
          refine j_goto B 381 dL_works_377 (by decide) ?_
          exact hret 381 _ 1 (τ1, φ, f) (374) (2244) dL_works_381 rfl (Nat.le_of_ble_eq_true rfl) (Nat.le_of_ble_eq_true rfl) ⟨rfl, pvI_le hI1 (by omega)⟩
    rcases h2 with ⟨rfl, h48⟩ | ⟨rfl, h48⟩
    · refine j_if_eq B 300 dL_works_287 (by decide) (fun h49 => absurd h49 (by decide)) (fun h49 => ?_)
      refine j_iload B dL_works_290 4 rfl ?_
      refine j_iconst B (v := 3) dL_works_292 (by decide) ?_
      refine j_icmp_eq B 300 dL_works_293 (by decide) (fun h50 => ?_) (fun h50 => ?_)
      · refine j_iconst B (v := 0) dL_works_300 (by decide) ?_
        exact kj13 0 (Or.inr ⟨rfl, by clear B hret kj13; grind⟩)
      · refine j_iconst B (v := 1) dL_works_296 (by decide) ?_
        refine j_goto B 301 dL_works_297 (by decide) ?_
        exact kj13 1 (Or.inl ⟨rfl, by clear B hret kj13; grind⟩)
    · refine j_if_eq B 300 dL_works_287 (by decide) (fun h51 => ?_) (fun h51 => absurd h51 (by decide))
      refine j_iconst B (v := 0) dL_works_300 (by decide) ?_
      exact kj13 0 (Or.inr ⟨rfl, by clear B hret kj13; grind⟩)
  · refine j_iload B dL_works_255 0 rfl ?_
    refine j_bipush B (v := (-9)) dL_works_257 (by decide) ?_
    refine j_icmp_ne B 278 dL_works_259 (by decide) (fun h52 => (by clear B hret; grind : False).elim) (fun h52 => ?_)
    refine j_aload_n B dL_works_262 5 rfl rfl ?_
    refine j_aload B dL_works_263 10 rfl ?_
    refine j_aload B dL_works_265 11 rfl ?_
    refine j_lconst B (v := 0) dL_works_267 (by decide) ?_
    refine j_lawI B 4 [.ref (ad 0), .ref (ca 0), .ref (ca 1), .long 0] (c_L_areSame l hl D cD cC cI cZ cL A τ1 φ n ad ca f hI1.1 (hc0) 0 (pv_same0 hd ((hA1 (by assumption)).2) (fun _ => rfl))) q_429 q_430 q_0 q_431 hdL_areSame rfl ⟨Nat.le_of_ble_eq_true rfl, Nat.le_of_ble_eq_true rfl⟩ (Nat.le_of_ble_eq_true rfl) dL_works_268 rfl (372) (2232) ⟨Nat.le_of_ble_eq_true rfl, Nat.le_of_ble_eq_true rfl⟩ ⟨Nat.le_of_ble_eq_true rfl, Nat.le_of_ble_eq_true rfl⟩ (fun r53 _ h54 => ?_)
    subst h54
    refine j_if_eq B 278 dL_works_271 (by decide) (fun h55 => absurd h55 (by decide)) (fun h55 => ?_)
    refine j_iconst B (v := 1) dL_works_274 (by decide) ?_
    refine j_goto B 279 dL_works_275 (by decide) ?_
    exact hret 279 _ 1 (τ1, φ, f) (372) (2232) dL_works_279 rfl (Nat.le_of_ble_eq_true rfl) (Nat.le_of_ble_eq_true rfl) ⟨rfl, pvI_le hI1 (by omega)⟩
/-- works_6 -/
abbrev rm_works_6 : Room := { frames := 10, cells := 373, slots := 2238, locals := 172 }
set_option maxHeartbeats 4000000 in
set_option maxRecDepth 100000 in
theorem c_L_works_6 (l : Launch) (hl : l.stackTraces = false) (D : va_G) (cD cC cI cZ cL : ClassId) (A : Nat → Prop) (σ φ : pgSt) (n : Nat) (ad ca : Nat → Nat) (f : Nat → Int64) (Bd : Nat) (h : pvI n σ φ (f 0) Bd) (hd : ∀ i, i < n → φ 1 i = pvE σ i) (j : Nat) (hj : j < n) (x0 : Nat) (hx : x0 < 2 ^ 31) (k : Nat) (hk : k < 8) : Met l yL_works (.code yL_works cL_works 18 (some .boolean) :: pgWd) rm_works_6 (pgPc D (pgTys cD cC cI cZ cL) A (pvW D cD cC cI cL A σ n ad φ ca f) [.ref (ad 0), .int 6, .int (nI j), .int (nI x0), .int (nI k), .ref (ca 0), .ref (ca 1), .ref (ca 2), .ref (ca 5), .ref (ca 4)]) (va_Qi (fun (r : Int32) (u : pgSt × pgSt × (Nat → Int64)) => r = 1 ∧ pvI n u.1 u.2.1 (u.2.2 0) (Bd + 1)) (fun u t9 => (pvW D cD cC cI cL A u.1 n ad u.2.1 ca u.2.2) t9.heap) A) rm_works_6.cells rm_works_6.slots A := by
  refine pv_enter (own := RL) (by decide) rfl (Nat.le_of_ble_eq_true rfl) (fun p e s m args below meth cc9 Q B hret => ?_)
  have hG := h.1
  have hn60 : n ≤ 60 := hG.1
  have hc0 : φ 0 0 = nI n := h.2.1.1
  have hm := h.2.2.2.2.2.2
  rcases (show x0 % 3 = 0 ∨ 0 < x0 % 3 by omega) with e2 | e2
  · have hz : nI (x0 % 3) ≤ 0 := by rw [e2]; decide
    have hz2 : ¬ 0 < nI (x0 % 3) := by rw [e2]; decide
    refine j_aload_n B dL_works_0 0 rfl rfl ?_
    refine j_iload_n B dL_works_1 2 rfl rfl ?_
    refine j_ask B (σ 4 j) 1 [.int (nI j)] (c_X2_stateOf l hl D cD cC cI cZ cL (pvA A ca) σ n ad hG (nI j)) (pv_askD hG (by omega) 4) q_250 q_251 q_252 q_1 q_253 hdX2_stateOf rfl ⟨Nat.le_of_ble_eq_true rfl, Nat.le_of_ble_eq_true rfl⟩ (Nat.le_of_ble_eq_true rfl) dL_works_2 rfl (1) (6) ⟨Nat.le_of_ble_eq_true rfl, Nat.le_of_ble_eq_true rfl⟩ ⟨Nat.le_of_ble_eq_true rfl, Nat.le_of_ble_eq_true rfl⟩ ?_
    refine j_istore B (L' := [(10, .int (σ 4 j)), (0, .ref (ad 0)), (1, .int 6), (2, .int (nI j)), (3, .int (nI x0)), (4, .int (nI k)), (5, .ref (ca 0)), (6, .ref (ca 1)), (7, .ref (ca 2)), (8, .ref (ca 5)), (9, .ref (ca 4))]) dL_works_5 (by decide) rfl ?_
    refine j_aload_n B dL_works_7 1 rfl rfl ?_
    refine j_iload_n B dL_works_8 3 rfl rfl ?_
    refine j_ask B (σ 2 j) 1 [.int (nI j)] (c_X2_keeperOf l hl D cD cC cI cZ cL (pvA A ca) σ n ad hG (nI j)) (pv_askD hG (by omega) 2) q_241 q_242 q_243 q_1 q_244 hdX2_keeperOf rfl ⟨Nat.le_of_ble_eq_true rfl, Nat.le_of_ble_eq_true rfl⟩ (Nat.le_of_ble_eq_true rfl) dL_works_9 rfl (2) (12) ⟨Nat.le_of_ble_eq_true rfl, Nat.le_of_ble_eq_true rfl⟩ ⟨Nat.le_of_ble_eq_true rfl, Nat.le_of_ble_eq_true rfl⟩ ?_
    refine j_istore B (L' := [(11, .int (σ 2 j)), (10, .int (σ 4 j)), (0, .ref (ad 0)), (1, .int 6), (2, .int (nI j)), (3, .int (nI x0)), (4, .int (nI k)), (5, .ref (ca 0)), (6, .ref (ca 1)), (7, .ref (ca 2)), (8, .ref (ca 5)), (9, .ref (ca 4))]) dL_works_12 (by decide) rfl ?_
    refine j_aload_n B dL_works_14 2 rfl rfl ?_
    refine j_aload B dL_works_15 10 rfl ?_
    refine j_iload_n B dL_works_17 4 rfl rfl ?_
    refine j_lawI B 3 [.ref (ad 0), .ref (ca 5), .int (nI j)] (c_L_isFree l hl D cD cC cI cZ cL A σ φ n ad ca f hG j (by omega) (hm j (by omega))) q_287 q_288 q_0 q_289 hdL_isFree rfl ⟨Nat.le_of_ble_eq_true rfl, Nat.le_of_ble_eq_true rfl⟩ (Nat.le_of_ble_eq_true rfl) dL_works_18 rfl (6) (36) ⟨Nat.le_of_ble_eq_true rfl, Nat.le_of_ble_eq_true rfl⟩ ⟨Nat.le_of_ble_eq_true rfl, Nat.le_of_ble_eq_true rfl⟩ (fun r1 _ h2 => ?_)
    refine j_istore B (L' := [(12, .int r1), (11, .int (σ 2 j)), (10, .int (σ 4 j)), (0, .ref (ad 0)), (1, .int 6), (2, .int (nI j)), (3, .int (nI x0)), (4, .int (nI k)), (5, .ref (ca 0)), (6, .ref (ca 1)), (7, .ref (ca 2)), (8, .ref (ca 5)), (9, .ref (ca 4))]) dL_works_21 (by decide) rfl ?_
    refine j_aload_n B dL_works_23 3 rfl rfl ?_
    refine j_iload_n B dL_works_24 5 rfl rfl ?_
    obtain ⟨r3, e4, h5⟩ := pv_done hG (by omega)
    refine j_ask B r3 1 [.int (nI j)] (c_X2_isDone l hl D cD cC cI cZ cL (pvA A ca) σ n ad hG (nI j)) e4 q_272 q_273 q_274 q_1 q_275 hdX2_isDone rfl ⟨Nat.le_of_ble_eq_true rfl, Nat.le_of_ble_eq_true rfl⟩ (Nat.le_of_ble_eq_true rfl) dL_works_25 rfl (7) (42) ⟨Nat.le_of_ble_eq_true rfl, Nat.le_of_ble_eq_true rfl⟩ ⟨Nat.le_of_ble_eq_true rfl, Nat.le_of_ble_eq_true rfl⟩ ?_
    refine j_istore B (L' := [(13, .int r3), (12, .int r1), (11, .int (σ 2 j)), (10, .int (σ 4 j)), (0, .ref (ad 0)), (1, .int 6), (2, .int (nI j)), (3, .int (nI x0)), (4, .int (nI k)), (5, .ref (ca 0)), (6, .ref (ca 1)), (7, .ref (ca 2)), (8, .ref (ca 5)), (9, .ref (ca 4))]) dL_works_28 (by decide) rfl ?_
    refine j_iload_n B dL_works_30 5 rfl rfl ?_
    refine j_iconst B (v := 4) dL_works_31 (by decide) ?_
    refine j_icmp_ne B 49 dL_works_32 (by decide) (fun h6 => ?_) (fun h6 => absurd h6 (by decide))
    refine j_iload_n B dL_works_49 5 rfl rfl ?_
    refine j_iconst B (v := 5) dL_works_50 (by decide) ?_
    refine j_icmp_ne B 66 dL_works_51 (by decide) (fun h7 => ?_) (fun h7 => absurd h7 (by decide))
    refine j_aload_n B dL_works_66 4 rfl rfl ?_
    refine j_bipush B (v := 6) dL_works_67 (by decide) ?_
    refine j_iload_n B dL_works_69 6 rfl rfl ?_
    refine j_iload B dL_works_70 8 rfl ?_
    refine j_iload_n B dL_works_72 7 rfl rfl ?_
    refine j_iconst B (v := 3) dL_works_73 (by decide) ?_
    refine j_remv B (nI (x0 % 3)) (pv_rem (b := 3) (by omega) (by omega) (by omega)) (by decide) dL_works_74 ?_
    obtain ⟨t1, τ1, et, eτ, hS1, hI1, hE1, hA1, hB1, hC1⟩ := pv_check0 h hj hk
    have hM := c_L_asks_6 l hl D cD cC cI cZ cL A σ φ n ad ca f hG (nI j) (nI k) (nI (x0 % 3)) 0 (Or.inr ⟨hz2, rfl⟩) hS1
    rw [et, eτ] at hM
    refine j_lawW B 5 [.ref (ad 0), .int 6, .int (nI j), .int (nI k), .int (nI (x0 % 3))] hM q_305 q_306 q_0 q_307 hdL_asks rfl ⟨Nat.le_of_ble_eq_true rfl, Nat.le_of_ble_eq_true rfl⟩ (Nat.le_of_ble_eq_true rfl) dL_works_75 rfl (11) (66) ⟨Nat.le_of_ble_eq_true rfl, Nat.le_of_ble_eq_true rfl⟩ ⟨Nat.le_of_ble_eq_true rfl, Nat.le_of_ble_eq_true rfl⟩ (fun r8 _ h9 => ?_)
    rw [h9]
    clear hM h9 r8
    refine j_istore B (L' := [(14, .int t1), (13, .int r3), (12, .int r1), (11, .int (σ 2 j)), (10, .int (σ 4 j)), (0, .ref (ad 0)), (1, .int 6), (2, .int (nI j)), (3, .int (nI x0)), (4, .int (nI k)), (5, .ref (ca 0)), (6, .ref (ca 1)), (7, .ref (ca 2)), (8, .ref (ca 5)), (9, .ref (ca 4))]) dL_works_78 (by decide) rfl ?_
    refine j_iload_n B dL_works_80 6 rfl rfl ?_
    refine j_bipush B (v := 6) dL_works_81 (by decide) ?_
    refine j_icmp_ne B 248 dL_works_83 (by decide) (fun h10 => absurd h10 (by decide)) (fun h10 => ?_)
    refine j_iload B dL_works_86 4 rfl ?_
    refine j_iconst B (v := 1) dL_works_88 (by decide) ?_
    have kj11 : ∀ v12 : Int32, (v12 = 1 ∧ (σ 4 j = 1 ∧ φ 4 j = nI k) ∨ v12 = 0 ∧ ¬ (σ 4 j = 1 ∧ φ 4 j = nI k)) → pgJ p l e rm_works_6 s m args below meth cc9 18 A (pvW D cD cC cI cL A τ1 n ad φ ca f) (11) (66) Q 106 [(14, .int t1), (13, .int r3), (12, .int r1), (11, .int (σ 2 j)), (10, .int (σ 4 j)), (0, .ref (ad 0)), (1, .int 6), (2, .int (nI j)), (3, .int (nI x0)), (4, .int (nI k)), (5, .ref (ca 0)), (6, .ref (ca 1)), (7, .ref (ca 2)), (8, .ref (ca 5)), (9, .ref (ca 4))] (.int v12 :: []) := by
      intro v12 hv13
      rcases hv13 with ⟨rfl, h14⟩ | ⟨rfl, h14⟩
      · refine j_istore B (L' := [(15, .int 1), (14, .int t1), (13, .int r3), (12, .int r1), (11, .int (σ 2 j)), (10, .int (σ 4 j)), (0, .ref (ad 0)), (1, .int 6), (2, .int (nI j)), (3, .int (nI x0)), (4, .int (nI k)), (5, .ref (ca 0)), (6, .ref (ca 1)), (7, .ref (ca 2)), (8, .ref (ca 5)), (9, .ref (ca 4))]) dL_works_106 (by decide) rfl ?_
        refine j_iload B dL_works_108 3 rfl ?_
        have kj15 : ∀ v16 : Int32, (v16 = 1 ∧ (pgReach σ j ∧ σ 4 j = 1) ∨ v16 = 0 ∧ ¬ (pgReach σ j ∧ σ 4 j = 1)) → pgJ p l e rm_works_6 s m args below meth cc9 18 A (pvW D cD cC cI cL A τ1 n ad φ ca f) (11) (66) Q 124 [(15, .int 1), (14, .int t1), (13, .int r3), (12, .int r1), (11, .int (σ 2 j)), (10, .int (σ 4 j)), (0, .ref (ad 0)), (1, .int 6), (2, .int (nI j)), (3, .int (nI x0)), (4, .int (nI k)), (5, .ref (ca 0)), (6, .ref (ca 1)), (7, .ref (ca 2)), (8, .ref (ca 5)), (9, .ref (ca 4))] (.int v16 :: []) := by
          intro v16 hv17
          rcases hv17 with ⟨rfl, h18⟩ | ⟨rfl, h18⟩
          · refine j_istore B (L' := [(16, .int 1), (15, .int 1), (14, .int t1), (13, .int r3), (12, .int r1), (11, .int (σ 2 j)), (10, .int (σ 4 j)), (0, .ref (ad 0)), (1, .int 6), (2, .int (nI j)), (3, .int (nI x0)), (4, .int (nI k)), (5, .ref (ca 0)), (6, .ref (ca 1)), (7, .ref (ca 2)), (8, .ref (ca 5)), (9, .ref (ca 4))]) dL_works_124 (by decide) rfl ?_
            refine j_iload_n B dL_works_126 10 rfl rfl ?_
            refine j_iconst B (v := 3) dL_works_127 (by decide) ?_
            refine j_remv B (nI (x0 % 3)) (pv_rem (b := 3) (by omega) (by omega) (by omega)) (by decide) dL_works_128 ?_
            refine j_if_le B 136 dL_works_129 (by decide) (fun h19 => ?_) (fun h19 => absurd hz h19)
            refine j_iconst B (v := 2) dL_works_136 (by decide) ?_
            refine j_istore B (L' := [(17, .int 2), (16, .int 1), (15, .int 1), (14, .int t1), (13, .int r3), (12, .int r1), (11, .int (σ 2 j)), (10, .int (σ 4 j)), (0, .ref (ad 0)), (1, .int 6), (2, .int (nI j)), (3, .int (nI x0)), (4, .int (nI k)), (5, .ref (ca 0)), (6, .ref (ca 1)), (7, .ref (ca 2)), (8, .ref (ca 5)), (9, .ref (ca 4))]) dL_works_137 (by decide) rfl ?_
            refine j_iload B dL_works_139 3 rfl ?_
            refine j_iload B dL_works_141 2 rfl ?_
            refine j_if_eq B 151 dL_works_143 (by decide) (fun h20 => absurd h20 (by decide)) (fun h20 => ?_)
            refine j_bipush B (v := (-9)) dL_works_146 (by decide) ?_
            refine j_goto B 163 dL_works_148 (by decide) ?_
            refine j_icmp_ne B 246 dL_works_163 (by decide) (fun h21 => (by clear B hret; grind : False).elim) (fun h21 => ?_)
            refine j_iload B dL_works_166 2 rfl ?_
            refine j_if_ne B 176 dL_works_168 (by decide) (fun h22 => ?_) (fun h22 => absurd h22 (by decide))
            refine j_aload_n B dL_works_176 8 rfl rfl ?_
            refine j_iload_n B dL_works_177 10 rfl rfl ?_
            refine j_ask B (τ1 4 j) 1 [.int (nI j)] (c_X2_stateOf l hl D cD cC cI cZ cL (pvA A ca) τ1 n ad hI1.1 (nI j)) (pv_askD hI1.1 (by omega) 4) q_250 q_251 q_252 q_1 q_253 hdX2_stateOf rfl ⟨Nat.le_of_ble_eq_true rfl, Nat.le_of_ble_eq_true rfl⟩ (Nat.le_of_ble_eq_true rfl) dL_works_178 rfl (12) (72) ⟨Nat.le_of_ble_eq_true rfl, Nat.le_of_ble_eq_true rfl⟩ ⟨Nat.le_of_ble_eq_true rfl, Nat.le_of_ble_eq_true rfl⟩ ?_
            refine j_iload B dL_works_181 7 rfl ?_
            refine j_icmp_ne B 246 dL_works_183 (by decide) (fun h23 => (by clear B hret; grind : False).elim) (fun h23 => ?_)
            refine j_aload_n B dL_works_186 8 rfl rfl ?_
            refine j_iload_n B dL_works_187 10 rfl rfl ?_
            obtain ⟨r24, e25, h26⟩ := pv_done hI1.1 (by omega)
            refine j_ask B r24 1 [.int (nI j)] (c_X2_isDone l hl D cD cC cI cZ cL (pvA A ca) τ1 n ad hI1.1 (nI j)) e25 q_272 q_273 q_274 q_1 q_275 hdX2_isDone rfl ⟨Nat.le_of_ble_eq_true rfl, Nat.le_of_ble_eq_true rfl⟩ (Nat.le_of_ble_eq_true rfl) dL_works_188 rfl (13) (78) ⟨Nat.le_of_ble_eq_true rfl, Nat.le_of_ble_eq_true rfl⟩ ⟨Nat.le_of_ble_eq_true rfl, Nat.le_of_ble_eq_true rfl⟩ ?_
            refine j_iload B dL_works_191 4 rfl ?_
            refine j_icmp_ne B 246 dL_works_193 (by decide) (fun h27 => (by clear B hret; grind : False).elim) (fun h27 => ?_)
            refine j_goto B 228 dL_works_196 (by decide) ?_
            refine j_aload_n B dL_works_228 8 rfl rfl ?_
            refine j_aload B dL_works_229 13 rfl ?_
            refine j_aload B dL_works_231 14 rfl ?_
            refine j_lconst B (v := 1) dL_works_233 (by decide) ?_
            refine j_iload_n B dL_works_234 10 rfl rfl ?_
            refine j_lshl B dL_works_235 ?_
            refine j_lawI B 4 [.ref (ad 0), .ref (ca 0), .ref (ca 1), .long ((1 : Int64) <<< ((nI j).toInt64 &&& 63))] (c_L_areSame l hl D cD cC cI cZ cL A τ1 φ n ad ca f hI1.1 (hc0) ((1 : Int64) <<< ((nI j).toInt64 &&& 63)) (pv_same1 (pv_j64 h hj) hd hE1 (fun _ => rfl))) q_429 q_430 q_0 q_431 hdL_areSame rfl ⟨Nat.le_of_ble_eq_true rfl, Nat.le_of_ble_eq_true rfl⟩ (Nat.le_of_ble_eq_true rfl) dL_works_236 rfl (373) (2238) ⟨Nat.le_of_ble_eq_true rfl, Nat.le_of_ble_eq_true rfl⟩ ⟨Nat.le_of_ble_eq_true rfl, Nat.le_of_ble_eq_true rfl⟩ (fun r28 _ h29 => ?_)
            subst h29
            refine j_if_eq B 246 dL_works_239 (by decide) (fun h30 => absurd h30 (by decide)) (fun h30 => ?_)
            refine j_iconst B (v := 1) dL_works_242 (by decide) ?_
            refine j_goto B 247 dL_works_243 (by decide) ?_
            exact hret 247 _ 1 (τ1, φ, f) (373) (2238) dL_works_247 rfl (Nat.le_of_ble_eq_true rfl) (Nat.le_of_ble_eq_true rfl) ⟨rfl, pvI_le hI1 (by omega)⟩
          · refine j_istore B (L' := [(16, .int 0), (15, .int 1), (14, .int t1), (13, .int r3), (12, .int r1), (11, .int (σ 2 j)), (10, .int (σ 4 j)), (0, .ref (ad 0)), (1, .int 6), (2, .int (nI j)), (3, .int (nI x0)), (4, .int (nI k)), (5, .ref (ca 0)), (6, .ref (ca 1)), (7, .ref (ca 2)), (8, .ref (ca 5)), (9, .ref (ca 4))]) dL_works_124 (by decide) rfl ?_
            refine j_iload_n B dL_works_126 10 rfl rfl ?_
            refine j_iconst B (v := 3) dL_works_127 (by decide) ?_
            refine j_remv B (nI (x0 % 3)) (pv_rem (b := 3) (by omega) (by omega) (by omega)) (by decide) dL_works_128 ?_
            refine j_if_le B 136 dL_works_129 (by decide) (fun h31 => ?_) (fun h31 => absurd hz h31)
            refine j_iconst B (v := 2) dL_works_136 (by decide) ?_
            refine j_istore B (L' := [(17, .int 2), (16, .int 0), (15, .int 1), (14, .int t1), (13, .int r3), (12, .int r1), (11, .int (σ 2 j)), (10, .int (σ 4 j)), (0, .ref (ad 0)), (1, .int 6), (2, .int (nI j)), (3, .int (nI x0)), (4, .int (nI k)), (5, .ref (ca 0)), (6, .ref (ca 1)), (7, .ref (ca 2)), (8, .ref (ca 5)), (9, .ref (ca 4))]) dL_works_137 (by decide) rfl ?_
            refine j_iload B dL_works_139 3 rfl ?_
            refine j_iload B dL_works_141 2 rfl ?_
            refine j_if_eq B 151 dL_works_143 (by decide) (fun h32 => absurd h32 (by decide)) (fun h32 => ?_)
            refine j_bipush B (v := (-9)) dL_works_146 (by decide) ?_
            refine j_goto B 163 dL_works_148 (by decide) ?_
            refine j_icmp_ne B 246 dL_works_163 (by decide) (fun h33 => (by clear B hret; grind : False).elim) (fun h33 => ?_)
            refine j_iload B dL_works_166 2 rfl ?_
            refine j_if_ne B 176 dL_works_168 (by decide) (fun h34 => ?_) (fun h34 => absurd h34 (by decide))
            refine j_aload_n B dL_works_176 8 rfl rfl ?_
            refine j_iload_n B dL_works_177 10 rfl rfl ?_
            refine j_ask B (τ1 4 j) 1 [.int (nI j)] (c_X2_stateOf l hl D cD cC cI cZ cL (pvA A ca) τ1 n ad hI1.1 (nI j)) (pv_askD hI1.1 (by omega) 4) q_250 q_251 q_252 q_1 q_253 hdX2_stateOf rfl ⟨Nat.le_of_ble_eq_true rfl, Nat.le_of_ble_eq_true rfl⟩ (Nat.le_of_ble_eq_true rfl) dL_works_178 rfl (12) (72) ⟨Nat.le_of_ble_eq_true rfl, Nat.le_of_ble_eq_true rfl⟩ ⟨Nat.le_of_ble_eq_true rfl, Nat.le_of_ble_eq_true rfl⟩ ?_
            refine j_iload B dL_works_181 7 rfl ?_
            refine j_icmp_ne B 246 dL_works_183 (by decide) (fun h35 => (by clear B hret; grind : False).elim) (fun h35 => ?_)
            refine j_aload_n B dL_works_186 8 rfl rfl ?_
            refine j_iload_n B dL_works_187 10 rfl rfl ?_
            obtain ⟨r36, e37, h38⟩ := pv_done hI1.1 (by omega)
            refine j_ask B r36 1 [.int (nI j)] (c_X2_isDone l hl D cD cC cI cZ cL (pvA A ca) τ1 n ad hI1.1 (nI j)) e37 q_272 q_273 q_274 q_1 q_275 hdX2_isDone rfl ⟨Nat.le_of_ble_eq_true rfl, Nat.le_of_ble_eq_true rfl⟩ (Nat.le_of_ble_eq_true rfl) dL_works_188 rfl (13) (78) ⟨Nat.le_of_ble_eq_true rfl, Nat.le_of_ble_eq_true rfl⟩ ⟨Nat.le_of_ble_eq_true rfl, Nat.le_of_ble_eq_true rfl⟩ ?_
            refine j_iload B dL_works_191 4 rfl ?_
            refine j_icmp_ne B 246 dL_works_193 (by decide) (fun h39 => (by clear B hret; grind : False).elim) (fun h39 => ?_)
            refine j_goto B 228 dL_works_196 (by decide) ?_
            refine j_aload_n B dL_works_228 8 rfl rfl ?_
            refine j_aload B dL_works_229 13 rfl ?_
            refine j_aload B dL_works_231 14 rfl ?_
            refine j_lconst B (v := 1) dL_works_233 (by decide) ?_
            refine j_iload_n B dL_works_234 10 rfl rfl ?_
            refine j_lshl B dL_works_235 ?_
            refine j_lawI B 4 [.ref (ad 0), .ref (ca 0), .ref (ca 1), .long ((1 : Int64) <<< ((nI j).toInt64 &&& 63))] (c_L_areSame l hl D cD cC cI cZ cL A τ1 φ n ad ca f hI1.1 (hc0) ((1 : Int64) <<< ((nI j).toInt64 &&& 63)) (pv_same1 (pv_j64 h hj) hd hE1 (fun _ => rfl))) q_429 q_430 q_0 q_431 hdL_areSame rfl ⟨Nat.le_of_ble_eq_true rfl, Nat.le_of_ble_eq_true rfl⟩ (Nat.le_of_ble_eq_true rfl) dL_works_236 rfl (373) (2238) ⟨Nat.le_of_ble_eq_true rfl, Nat.le_of_ble_eq_true rfl⟩ ⟨Nat.le_of_ble_eq_true rfl, Nat.le_of_ble_eq_true rfl⟩ (fun r40 _ h41 => ?_)
            subst h41
            refine j_if_eq B 246 dL_works_239 (by decide) (fun h42 => absurd h42 (by decide)) (fun h42 => ?_)
            refine j_iconst B (v := 1) dL_works_242 (by decide) ?_
            refine j_goto B 247 dL_works_243 (by decide) ?_
            exact hret 247 _ 1 (τ1, φ, f) (373) (2238) dL_works_247 rfl (Nat.le_of_ble_eq_true rfl) (Nat.le_of_ble_eq_true rfl) ⟨rfl, pvI_le hI1 (by omega)⟩
        rcases h2 with ⟨rfl, h43⟩ | ⟨rfl, h43⟩
        · refine j_if_eq B 123 dL_works_110 (by decide) (fun h44 => absurd h44 (by decide)) (fun h44 => ?_)
          refine j_iload B dL_works_113 5 rfl ?_
          refine j_iconst B (v := 1) dL_works_115 (by decide) ?_
          refine j_icmp_ne B 123 dL_works_116 (by decide) (fun h45 => ?_) (fun h45 => ?_)
          · refine j_iconst B (v := 0) dL_works_123 (by decide) ?_
            exact kj15 0 (Or.inr ⟨rfl, by clear B hret kj15; grind⟩)
          · refine j_iconst B (v := 1) dL_works_119 (by decide) ?_
            refine j_goto B 124 dL_works_120 (by decide) ?_
            exact kj15 1 (Or.inl ⟨rfl, by clear B hret kj15; grind⟩)
        · refine j_if_eq B 123 dL_works_110 (by decide) (fun h46 => ?_) (fun h46 => absurd h46 (by decide))
          refine j_iconst B (v := 0) dL_works_123 (by decide) ?_
          exact kj15 0 (Or.inr ⟨rfl, by clear B hret kj15; grind⟩)
      · refine j_istore B (L' := [(15, .int 0), (14, .int t1), (13, .int r3), (12, .int r1), (11, .int (σ 2 j)), (10, .int (σ 4 j)), (0, .ref (ad 0)), (1, .int 6), (2, .int (nI j)), (3, .int (nI x0)), (4, .int (nI k)), (5, .ref (ca 0)), (6, .ref (ca 1)), (7, .ref (ca 2)), (8, .ref (ca 5)), (9, .ref (ca 4))]) dL_works_106 (by decide) rfl ?_
        refine j_iload B dL_works_108 3 rfl ?_
        have kj47 : ∀ v48 : Int32, (v48 = 1 ∧ (pgReach σ j ∧ σ 4 j = 1) ∨ v48 = 0 ∧ ¬ (pgReach σ j ∧ σ 4 j = 1)) → pgJ p l e rm_works_6 s m args below meth cc9 18 A (pvW D cD cC cI cL A τ1 n ad φ ca f) (11) (66) Q 124 [(15, .int 0), (14, .int t1), (13, .int r3), (12, .int r1), (11, .int (σ 2 j)), (10, .int (σ 4 j)), (0, .ref (ad 0)), (1, .int 6), (2, .int (nI j)), (3, .int (nI x0)), (4, .int (nI k)), (5, .ref (ca 0)), (6, .ref (ca 1)), (7, .ref (ca 2)), (8, .ref (ca 5)), (9, .ref (ca 4))] (.int v48 :: []) := by
          intro v48 hv49
          rcases hv49 with ⟨rfl, h50⟩ | ⟨rfl, h50⟩
          · refine j_istore B (L' := [(16, .int 1), (15, .int 0), (14, .int t1), (13, .int r3), (12, .int r1), (11, .int (σ 2 j)), (10, .int (σ 4 j)), (0, .ref (ad 0)), (1, .int 6), (2, .int (nI j)), (3, .int (nI x0)), (4, .int (nI k)), (5, .ref (ca 0)), (6, .ref (ca 1)), (7, .ref (ca 2)), (8, .ref (ca 5)), (9, .ref (ca 4))]) dL_works_124 (by decide) rfl ?_
            refine j_iload_n B dL_works_126 10 rfl rfl ?_
            refine j_iconst B (v := 3) dL_works_127 (by decide) ?_
            refine j_remv B (nI (x0 % 3)) (pv_rem (b := 3) (by omega) (by omega) (by omega)) (by decide) dL_works_128 ?_
            refine j_if_le B 136 dL_works_129 (by decide) (fun h51 => ?_) (fun h51 => absurd hz h51)
            refine j_iconst B (v := 2) dL_works_136 (by decide) ?_
            refine j_istore B (L' := [(17, .int 2), (16, .int 1), (15, .int 0), (14, .int t1), (13, .int r3), (12, .int r1), (11, .int (σ 2 j)), (10, .int (σ 4 j)), (0, .ref (ad 0)), (1, .int 6), (2, .int (nI j)), (3, .int (nI x0)), (4, .int (nI k)), (5, .ref (ca 0)), (6, .ref (ca 1)), (7, .ref (ca 2)), (8, .ref (ca 5)), (9, .ref (ca 4))]) dL_works_137 (by decide) rfl ?_
            refine j_iload B dL_works_139 3 rfl ?_
            refine j_iload B dL_works_141 2 rfl ?_
            refine j_if_eq B 151 dL_works_143 (by decide) (fun h52 => ?_) (fun h52 => absurd h52 (by decide))
            refine j_iload B dL_works_151 1 rfl ?_
            refine j_if_eq B 161 dL_works_153 (by decide) (fun h53 => absurd h53 (by decide)) (fun h53 => ?_)
            refine j_iload B dL_works_156 0 rfl ?_
            refine j_goto B 163 dL_works_158 (by decide) ?_
            refine j_icmp_ne B 246 dL_works_163 (by decide) (fun h54 => (by clear B hret; grind : False).elim) (fun h54 => ?_)
            refine j_iload B dL_works_166 2 rfl ?_
            refine j_if_ne B 176 dL_works_168 (by decide) (fun h55 => absurd h55 (by decide)) (fun h55 => ?_)
            refine j_iload B dL_works_171 1 rfl ?_
            refine j_if_ne B 199 dL_works_173 (by decide) (fun h56 => ?_) (fun h56 => absurd h56 (by decide))
            refine j_aload_n B dL_works_199 8 rfl rfl ?_
            refine j_iload_n B dL_works_200 10 rfl rfl ?_
            refine j_ask B (τ1 4 j) 1 [.int (nI j)] (c_X2_stateOf l hl D cD cC cI cZ cL (pvA A ca) τ1 n ad hI1.1 (nI j)) (pv_askD hI1.1 (by omega) 4) q_250 q_251 q_252 q_1 q_253 hdX2_stateOf rfl ⟨Nat.le_of_ble_eq_true rfl, Nat.le_of_ble_eq_true rfl⟩ (Nat.le_of_ble_eq_true rfl) dL_works_201 rfl (12) (72) ⟨Nat.le_of_ble_eq_true rfl, Nat.le_of_ble_eq_true rfl⟩ ⟨Nat.le_of_ble_eq_true rfl, Nat.le_of_ble_eq_true rfl⟩ ?_
            refine j_iload B dL_works_204 0 rfl ?_
            refine j_icmp_ne B 246 dL_works_206 (by decide) (fun h57 => (by clear B hret; grind : False).elim) (fun h57 => ?_)
            refine j_aload_n B dL_works_209 8 rfl rfl ?_
            refine j_iload_n B dL_works_210 10 rfl rfl ?_
            obtain ⟨r58, e59, h60⟩ := pv_done hI1.1 (by omega)
            refine j_ask B r58 1 [.int (nI j)] (c_X2_isDone l hl D cD cC cI cZ cL (pvA A ca) τ1 n ad hI1.1 (nI j)) e59 q_272 q_273 q_274 q_1 q_275 hdX2_isDone rfl ⟨Nat.le_of_ble_eq_true rfl, Nat.le_of_ble_eq_true rfl⟩ (Nat.le_of_ble_eq_true rfl) dL_works_211 rfl (13) (78) ⟨Nat.le_of_ble_eq_true rfl, Nat.le_of_ble_eq_true rfl⟩ ⟨Nat.le_of_ble_eq_true rfl, Nat.le_of_ble_eq_true rfl⟩ ?_
            refine j_iload B dL_works_214 0 rfl ?_
            refine j_iconst B (v := 1) dL_works_216 (by decide) ?_
            refine j_icmp_ne B 224 dL_works_217 (by decide) (fun h61 => ?_) (fun h61 => absurd h61 (by decide))
            refine j_iconst B (v := 0) dL_works_224 (by decide) ?_
            refine j_icmp_ne B 246 dL_works_225 (by decide) (fun h62 => (by clear B hret; grind : False).elim) (fun h62 => ?_)
            refine j_aload_n B dL_works_228 8 rfl rfl ?_
            refine j_aload B dL_works_229 13 rfl ?_
            refine j_aload B dL_works_231 14 rfl ?_
            refine j_lconst B (v := 1) dL_works_233 (by decide) ?_
            refine j_iload_n B dL_works_234 10 rfl rfl ?_
            refine j_lshl B dL_works_235 ?_
            refine j_lawI B 4 [.ref (ad 0), .ref (ca 0), .ref (ca 1), .long ((1 : Int64) <<< ((nI j).toInt64 &&& 63))] (c_L_areSame l hl D cD cC cI cZ cL A τ1 φ n ad ca f hI1.1 (hc0) ((1 : Int64) <<< ((nI j).toInt64 &&& 63)) (pv_same1 (pv_j64 h hj) hd hE1 (fun _ => rfl))) q_429 q_430 q_0 q_431 hdL_areSame rfl ⟨Nat.le_of_ble_eq_true rfl, Nat.le_of_ble_eq_true rfl⟩ (Nat.le_of_ble_eq_true rfl) dL_works_236 rfl (373) (2238) ⟨Nat.le_of_ble_eq_true rfl, Nat.le_of_ble_eq_true rfl⟩ ⟨Nat.le_of_ble_eq_true rfl, Nat.le_of_ble_eq_true rfl⟩ (fun r63 _ h64 => ?_)
            subst h64
            refine j_if_eq B 246 dL_works_239 (by decide) (fun h65 => absurd h65 (by decide)) (fun h65 => ?_)
            refine j_iconst B (v := 1) dL_works_242 (by decide) ?_
            refine j_goto B 247 dL_works_243 (by decide) ?_
            exact hret 247 _ 1 (τ1, φ, f) (373) (2238) dL_works_247 rfl (Nat.le_of_ble_eq_true rfl) (Nat.le_of_ble_eq_true rfl) ⟨rfl, pvI_le hI1 (by omega)⟩
          · refine j_istore B (L' := [(16, .int 0), (15, .int 0), (14, .int t1), (13, .int r3), (12, .int r1), (11, .int (σ 2 j)), (10, .int (σ 4 j)), (0, .ref (ad 0)), (1, .int 6), (2, .int (nI j)), (3, .int (nI x0)), (4, .int (nI k)), (5, .ref (ca 0)), (6, .ref (ca 1)), (7, .ref (ca 2)), (8, .ref (ca 5)), (9, .ref (ca 4))]) dL_works_124 (by decide) rfl ?_
            refine j_iload_n B dL_works_126 10 rfl rfl ?_
            refine j_iconst B (v := 3) dL_works_127 (by decide) ?_
            refine j_remv B (nI (x0 % 3)) (pv_rem (b := 3) (by omega) (by omega) (by omega)) (by decide) dL_works_128 ?_
            refine j_if_le B 136 dL_works_129 (by decide) (fun h66 => ?_) (fun h66 => absurd hz h66)
            refine j_iconst B (v := 2) dL_works_136 (by decide) ?_
            refine j_istore B (L' := [(17, .int 2), (16, .int 0), (15, .int 0), (14, .int t1), (13, .int r3), (12, .int r1), (11, .int (σ 2 j)), (10, .int (σ 4 j)), (0, .ref (ad 0)), (1, .int 6), (2, .int (nI j)), (3, .int (nI x0)), (4, .int (nI k)), (5, .ref (ca 0)), (6, .ref (ca 1)), (7, .ref (ca 2)), (8, .ref (ca 5)), (9, .ref (ca 4))]) dL_works_137 (by decide) rfl ?_
            refine j_iload B dL_works_139 3 rfl ?_
            refine j_iload B dL_works_141 2 rfl ?_
            refine j_if_eq B 151 dL_works_143 (by decide) (fun h67 => ?_) (fun h67 => absurd h67 (by decide))
            refine j_iload B dL_works_151 1 rfl ?_
            refine j_if_eq B 161 dL_works_153 (by decide) (fun h68 => ?_) (fun h68 => absurd h68 (by decide))
            refine j_bipush B (v := (-8)) dL_works_161 (by decide) ?_
            refine j_icmp_ne B 246 dL_works_163 (by decide) (fun h69 => (by clear B hret; grind : False).elim) (fun h69 => ?_)
            refine j_iload B dL_works_166 2 rfl ?_
            refine j_if_ne B 176 dL_works_168 (by decide) (fun h70 => absurd h70 (by decide)) (fun h70 => ?_)
            refine j_iload B dL_works_171 1 rfl ?_
            refine j_if_ne B 199 dL_works_173 (by decide) (fun h71 => absurd h71 (by decide)) (fun h71 => ?_)
            refine j_aload_n B dL_works_176 8 rfl rfl ?_
            refine j_iload_n B dL_works_177 10 rfl rfl ?_
            refine j_ask B (τ1 4 j) 1 [.int (nI j)] (c_X2_stateOf l hl D cD cC cI cZ cL (pvA A ca) τ1 n ad hI1.1 (nI j)) (pv_askD hI1.1 (by omega) 4) q_250 q_251 q_252 q_1 q_253 hdX2_stateOf rfl ⟨Nat.le_of_ble_eq_true rfl, Nat.le_of_ble_eq_true rfl⟩ (Nat.le_of_ble_eq_true rfl) dL_works_178 rfl (12) (72) ⟨Nat.le_of_ble_eq_true rfl, Nat.le_of_ble_eq_true rfl⟩ ⟨Nat.le_of_ble_eq_true rfl, Nat.le_of_ble_eq_true rfl⟩ ?_
            refine j_iload B dL_works_181 7 rfl ?_
            refine j_icmp_ne B 246 dL_works_183 (by decide) (fun h72 => (by clear B hret; grind : False).elim) (fun h72 => ?_)
            refine j_aload_n B dL_works_186 8 rfl rfl ?_
            refine j_iload_n B dL_works_187 10 rfl rfl ?_
            obtain ⟨r73, e74, h75⟩ := pv_done hI1.1 (by omega)
            refine j_ask B r73 1 [.int (nI j)] (c_X2_isDone l hl D cD cC cI cZ cL (pvA A ca) τ1 n ad hI1.1 (nI j)) e74 q_272 q_273 q_274 q_1 q_275 hdX2_isDone rfl ⟨Nat.le_of_ble_eq_true rfl, Nat.le_of_ble_eq_true rfl⟩ (Nat.le_of_ble_eq_true rfl) dL_works_188 rfl (13) (78) ⟨Nat.le_of_ble_eq_true rfl, Nat.le_of_ble_eq_true rfl⟩ ⟨Nat.le_of_ble_eq_true rfl, Nat.le_of_ble_eq_true rfl⟩ ?_
            refine j_iload B dL_works_191 4 rfl ?_
            refine j_icmp_ne B 246 dL_works_193 (by decide) (fun h76 => (by clear B hret; grind : False).elim) (fun h76 => ?_)
            refine j_goto B 228 dL_works_196 (by decide) ?_
            refine j_aload_n B dL_works_228 8 rfl rfl ?_
            refine j_aload B dL_works_229 13 rfl ?_
            refine j_aload B dL_works_231 14 rfl ?_
            refine j_lconst B (v := 1) dL_works_233 (by decide) ?_
            refine j_iload_n B dL_works_234 10 rfl rfl ?_
            refine j_lshl B dL_works_235 ?_
            refine j_lawI B 4 [.ref (ad 0), .ref (ca 0), .ref (ca 1), .long ((1 : Int64) <<< ((nI j).toInt64 &&& 63))] (c_L_areSame l hl D cD cC cI cZ cL A τ1 φ n ad ca f hI1.1 (hc0) ((1 : Int64) <<< ((nI j).toInt64 &&& 63)) (pv_same1 (pv_j64 h hj) hd hE1 (fun _ => rfl))) q_429 q_430 q_0 q_431 hdL_areSame rfl ⟨Nat.le_of_ble_eq_true rfl, Nat.le_of_ble_eq_true rfl⟩ (Nat.le_of_ble_eq_true rfl) dL_works_236 rfl (373) (2238) ⟨Nat.le_of_ble_eq_true rfl, Nat.le_of_ble_eq_true rfl⟩ ⟨Nat.le_of_ble_eq_true rfl, Nat.le_of_ble_eq_true rfl⟩ (fun r77 _ h78 => ?_)
            subst h78
            refine j_if_eq B 246 dL_works_239 (by decide) (fun h79 => absurd h79 (by decide)) (fun h79 => ?_)
            refine j_iconst B (v := 1) dL_works_242 (by decide) ?_
            refine j_goto B 247 dL_works_243 (by decide) ?_
            exact hret 247 _ 1 (τ1, φ, f) (373) (2238) dL_works_247 rfl (Nat.le_of_ble_eq_true rfl) (Nat.le_of_ble_eq_true rfl) ⟨rfl, pvI_le hI1 (by omega)⟩
        rcases h2 with ⟨rfl, h80⟩ | ⟨rfl, h80⟩
        · refine j_if_eq B 123 dL_works_110 (by decide) (fun h81 => absurd h81 (by decide)) (fun h81 => ?_)
          refine j_iload B dL_works_113 5 rfl ?_
          refine j_iconst B (v := 1) dL_works_115 (by decide) ?_
          refine j_icmp_ne B 123 dL_works_116 (by decide) (fun h82 => ?_) (fun h82 => ?_)
          · refine j_iconst B (v := 0) dL_works_123 (by decide) ?_
            exact kj47 0 (Or.inr ⟨rfl, by clear B hret kj47; grind⟩)
          · refine j_iconst B (v := 1) dL_works_119 (by decide) ?_
            refine j_goto B 124 dL_works_120 (by decide) ?_
            exact kj47 1 (Or.inl ⟨rfl, by clear B hret kj47; grind⟩)
        · refine j_if_eq B 123 dL_works_110 (by decide) (fun h83 => ?_) (fun h83 => absurd h83 (by decide))
          refine j_iconst B (v := 0) dL_works_123 (by decide) ?_
          exact kj47 0 (Or.inr ⟨rfl, by clear B hret kj47; grind⟩)
    refine j_icmp_ne B 105 dL_works_89 (by decide) (fun h84 => ?_) (fun h84 => ?_)
    · refine j_iconst B (v := 0) dL_works_105 (by decide) ?_
      exact kj11 0 (Or.inr ⟨rfl, by clear B hret kj11; grind⟩)
    · refine j_aload B dL_works_92 14 rfl ?_
      refine j_iload_n B dL_works_94 7 rfl rfl ?_
      refine j_pld B (k := 4) (j := j) (v := φ 4 j) (by omega) rfl (show j < 60 by omega) rfl dL_works_95 ?_
      refine j_iload B dL_works_96 9 rfl ?_
      refine j_icmp_ne B 105 dL_works_98 (by decide) (fun h85 => ?_) (fun h85 => ?_)
      · refine j_iconst B (v := 0) dL_works_105 (by decide) ?_
        exact kj11 0 (Or.inr ⟨rfl, by clear B hret kj11; grind⟩)
      · refine j_iconst B (v := 1) dL_works_101 (by decide) ?_
        refine j_goto B 106 dL_works_102 (by decide) ?_
        exact kj11 1 (Or.inl ⟨rfl, by clear B hret kj11; grind⟩)
  · have hz : ¬ nI (x0 % 3) ≤ 0 := nI_nle e2 (by omega)
    have hz2 : 0 < nI (x0 % 3) := Int32.not_le.mp hz
    refine j_aload_n B dL_works_0 0 rfl rfl ?_
    refine j_iload_n B dL_works_1 2 rfl rfl ?_
    refine j_ask B (σ 4 j) 1 [.int (nI j)] (c_X2_stateOf l hl D cD cC cI cZ cL (pvA A ca) σ n ad hG (nI j)) (pv_askD hG (by omega) 4) q_250 q_251 q_252 q_1 q_253 hdX2_stateOf rfl ⟨Nat.le_of_ble_eq_true rfl, Nat.le_of_ble_eq_true rfl⟩ (Nat.le_of_ble_eq_true rfl) dL_works_2 rfl (1) (6) ⟨Nat.le_of_ble_eq_true rfl, Nat.le_of_ble_eq_true rfl⟩ ⟨Nat.le_of_ble_eq_true rfl, Nat.le_of_ble_eq_true rfl⟩ ?_
    refine j_istore B (L' := [(10, .int (σ 4 j)), (0, .ref (ad 0)), (1, .int 6), (2, .int (nI j)), (3, .int (nI x0)), (4, .int (nI k)), (5, .ref (ca 0)), (6, .ref (ca 1)), (7, .ref (ca 2)), (8, .ref (ca 5)), (9, .ref (ca 4))]) dL_works_5 (by decide) rfl ?_
    refine j_aload_n B dL_works_7 1 rfl rfl ?_
    refine j_iload_n B dL_works_8 3 rfl rfl ?_
    refine j_ask B (σ 2 j) 1 [.int (nI j)] (c_X2_keeperOf l hl D cD cC cI cZ cL (pvA A ca) σ n ad hG (nI j)) (pv_askD hG (by omega) 2) q_241 q_242 q_243 q_1 q_244 hdX2_keeperOf rfl ⟨Nat.le_of_ble_eq_true rfl, Nat.le_of_ble_eq_true rfl⟩ (Nat.le_of_ble_eq_true rfl) dL_works_9 rfl (2) (12) ⟨Nat.le_of_ble_eq_true rfl, Nat.le_of_ble_eq_true rfl⟩ ⟨Nat.le_of_ble_eq_true rfl, Nat.le_of_ble_eq_true rfl⟩ ?_
    refine j_istore B (L' := [(11, .int (σ 2 j)), (10, .int (σ 4 j)), (0, .ref (ad 0)), (1, .int 6), (2, .int (nI j)), (3, .int (nI x0)), (4, .int (nI k)), (5, .ref (ca 0)), (6, .ref (ca 1)), (7, .ref (ca 2)), (8, .ref (ca 5)), (9, .ref (ca 4))]) dL_works_12 (by decide) rfl ?_
    refine j_aload_n B dL_works_14 2 rfl rfl ?_
    refine j_aload B dL_works_15 10 rfl ?_
    refine j_iload_n B dL_works_17 4 rfl rfl ?_
    refine j_lawI B 3 [.ref (ad 0), .ref (ca 5), .int (nI j)] (c_L_isFree l hl D cD cC cI cZ cL A σ φ n ad ca f hG j (by omega) (hm j (by omega))) q_287 q_288 q_0 q_289 hdL_isFree rfl ⟨Nat.le_of_ble_eq_true rfl, Nat.le_of_ble_eq_true rfl⟩ (Nat.le_of_ble_eq_true rfl) dL_works_18 rfl (6) (36) ⟨Nat.le_of_ble_eq_true rfl, Nat.le_of_ble_eq_true rfl⟩ ⟨Nat.le_of_ble_eq_true rfl, Nat.le_of_ble_eq_true rfl⟩ (fun r86 _ h87 => ?_)
    refine j_istore B (L' := [(12, .int r86), (11, .int (σ 2 j)), (10, .int (σ 4 j)), (0, .ref (ad 0)), (1, .int 6), (2, .int (nI j)), (3, .int (nI x0)), (4, .int (nI k)), (5, .ref (ca 0)), (6, .ref (ca 1)), (7, .ref (ca 2)), (8, .ref (ca 5)), (9, .ref (ca 4))]) dL_works_21 (by decide) rfl ?_
    refine j_aload_n B dL_works_23 3 rfl rfl ?_
    refine j_iload_n B dL_works_24 5 rfl rfl ?_
    obtain ⟨r88, e89, h90⟩ := pv_done hG (by omega)
    refine j_ask B r88 1 [.int (nI j)] (c_X2_isDone l hl D cD cC cI cZ cL (pvA A ca) σ n ad hG (nI j)) e89 q_272 q_273 q_274 q_1 q_275 hdX2_isDone rfl ⟨Nat.le_of_ble_eq_true rfl, Nat.le_of_ble_eq_true rfl⟩ (Nat.le_of_ble_eq_true rfl) dL_works_25 rfl (7) (42) ⟨Nat.le_of_ble_eq_true rfl, Nat.le_of_ble_eq_true rfl⟩ ⟨Nat.le_of_ble_eq_true rfl, Nat.le_of_ble_eq_true rfl⟩ ?_
    refine j_istore B (L' := [(13, .int r88), (12, .int r86), (11, .int (σ 2 j)), (10, .int (σ 4 j)), (0, .ref (ad 0)), (1, .int 6), (2, .int (nI j)), (3, .int (nI x0)), (4, .int (nI k)), (5, .ref (ca 0)), (6, .ref (ca 1)), (7, .ref (ca 2)), (8, .ref (ca 5)), (9, .ref (ca 4))]) dL_works_28 (by decide) rfl ?_
    refine j_iload_n B dL_works_30 5 rfl rfl ?_
    refine j_iconst B (v := 4) dL_works_31 (by decide) ?_
    refine j_icmp_ne B 49 dL_works_32 (by decide) (fun h91 => ?_) (fun h91 => absurd h91 (by decide))
    refine j_iload_n B dL_works_49 5 rfl rfl ?_
    refine j_iconst B (v := 5) dL_works_50 (by decide) ?_
    refine j_icmp_ne B 66 dL_works_51 (by decide) (fun h92 => ?_) (fun h92 => absurd h92 (by decide))
    refine j_aload_n B dL_works_66 4 rfl rfl ?_
    refine j_bipush B (v := 6) dL_works_67 (by decide) ?_
    refine j_iload_n B dL_works_69 6 rfl rfl ?_
    refine j_iload B dL_works_70 8 rfl ?_
    refine j_iload_n B dL_works_72 7 rfl rfl ?_
    refine j_iconst B (v := 3) dL_works_73 (by decide) ?_
    refine j_remv B (nI (x0 % 3)) (pv_rem (b := 3) (by omega) (by omega) (by omega)) (by decide) dL_works_74 ?_
    obtain ⟨t1, τ1, et, eτ, hS1, hI1, hE1, hA1, hB1, hC1⟩ := pv_check1 h hj hk
    have hM := c_L_asks_6 l hl D cD cC cI cZ cL A σ φ n ad ca f hG (nI j) (nI k) (nI (x0 % 3)) 1 (Or.inl ⟨hz2, rfl⟩) hS1
    rw [et, eτ] at hM
    refine j_lawW B 5 [.ref (ad 0), .int 6, .int (nI j), .int (nI k), .int (nI (x0 % 3))] hM q_305 q_306 q_0 q_307 hdL_asks rfl ⟨Nat.le_of_ble_eq_true rfl, Nat.le_of_ble_eq_true rfl⟩ (Nat.le_of_ble_eq_true rfl) dL_works_75 rfl (11) (66) ⟨Nat.le_of_ble_eq_true rfl, Nat.le_of_ble_eq_true rfl⟩ ⟨Nat.le_of_ble_eq_true rfl, Nat.le_of_ble_eq_true rfl⟩ (fun r93 _ h94 => ?_)
    rw [h94]
    clear hM h94 r93
    refine j_istore B (L' := [(14, .int t1), (13, .int r88), (12, .int r86), (11, .int (σ 2 j)), (10, .int (σ 4 j)), (0, .ref (ad 0)), (1, .int 6), (2, .int (nI j)), (3, .int (nI x0)), (4, .int (nI k)), (5, .ref (ca 0)), (6, .ref (ca 1)), (7, .ref (ca 2)), (8, .ref (ca 5)), (9, .ref (ca 4))]) dL_works_78 (by decide) rfl ?_
    refine j_iload_n B dL_works_80 6 rfl rfl ?_
    refine j_bipush B (v := 6) dL_works_81 (by decide) ?_
    refine j_icmp_ne B 248 dL_works_83 (by decide) (fun h95 => absurd h95 (by decide)) (fun h95 => ?_)
    refine j_iload B dL_works_86 4 rfl ?_
    refine j_iconst B (v := 1) dL_works_88 (by decide) ?_
    have kj96 : ∀ v97 : Int32, (v97 = 1 ∧ (σ 4 j = 1 ∧ φ 4 j = nI k) ∨ v97 = 0 ∧ ¬ (σ 4 j = 1 ∧ φ 4 j = nI k)) → pgJ p l e rm_works_6 s m args below meth cc9 18 A (pvW D cD cC cI cL A τ1 n ad φ ca f) (11) (66) Q 106 [(14, .int t1), (13, .int r88), (12, .int r86), (11, .int (σ 2 j)), (10, .int (σ 4 j)), (0, .ref (ad 0)), (1, .int 6), (2, .int (nI j)), (3, .int (nI x0)), (4, .int (nI k)), (5, .ref (ca 0)), (6, .ref (ca 1)), (7, .ref (ca 2)), (8, .ref (ca 5)), (9, .ref (ca 4))] (.int v97 :: []) := by
      intro v97 hv98
      rcases hv98 with ⟨rfl, h99⟩ | ⟨rfl, h99⟩
      · refine j_istore B (L' := [(15, .int 1), (14, .int t1), (13, .int r88), (12, .int r86), (11, .int (σ 2 j)), (10, .int (σ 4 j)), (0, .ref (ad 0)), (1, .int 6), (2, .int (nI j)), (3, .int (nI x0)), (4, .int (nI k)), (5, .ref (ca 0)), (6, .ref (ca 1)), (7, .ref (ca 2)), (8, .ref (ca 5)), (9, .ref (ca 4))]) dL_works_106 (by decide) rfl ?_
        refine j_iload B dL_works_108 3 rfl ?_
        have kj100 : ∀ v101 : Int32, (v101 = 1 ∧ (pgReach σ j ∧ σ 4 j = 1) ∨ v101 = 0 ∧ ¬ (pgReach σ j ∧ σ 4 j = 1)) → pgJ p l e rm_works_6 s m args below meth cc9 18 A (pvW D cD cC cI cL A τ1 n ad φ ca f) (11) (66) Q 124 [(15, .int 1), (14, .int t1), (13, .int r88), (12, .int r86), (11, .int (σ 2 j)), (10, .int (σ 4 j)), (0, .ref (ad 0)), (1, .int 6), (2, .int (nI j)), (3, .int (nI x0)), (4, .int (nI k)), (5, .ref (ca 0)), (6, .ref (ca 1)), (7, .ref (ca 2)), (8, .ref (ca 5)), (9, .ref (ca 4))] (.int v101 :: []) := by
          intro v101 hv102
          rcases hv102 with ⟨rfl, h103⟩ | ⟨rfl, h103⟩
          · refine j_istore B (L' := [(16, .int 1), (15, .int 1), (14, .int t1), (13, .int r88), (12, .int r86), (11, .int (σ 2 j)), (10, .int (σ 4 j)), (0, .ref (ad 0)), (1, .int 6), (2, .int (nI j)), (3, .int (nI x0)), (4, .int (nI k)), (5, .ref (ca 0)), (6, .ref (ca 1)), (7, .ref (ca 2)), (8, .ref (ca 5)), (9, .ref (ca 4))]) dL_works_124 (by decide) rfl ?_
            refine j_iload_n B dL_works_126 10 rfl rfl ?_
            refine j_iconst B (v := 3) dL_works_127 (by decide) ?_
            refine j_remv B (nI (x0 % 3)) (pv_rem (b := 3) (by omega) (by omega) (by omega)) (by decide) dL_works_128 ?_
            refine j_if_le B 136 dL_works_129 (by decide) (fun h104 => absurd h104 hz) (fun h104 => ?_)
            refine j_iconst B (v := 1) dL_works_132 (by decide) ?_
            refine j_goto B 137 dL_works_133 (by decide) ?_
            refine j_istore B (L' := [(17, .int 1), (16, .int 1), (15, .int 1), (14, .int t1), (13, .int r88), (12, .int r86), (11, .int (σ 2 j)), (10, .int (σ 4 j)), (0, .ref (ad 0)), (1, .int 6), (2, .int (nI j)), (3, .int (nI x0)), (4, .int (nI k)), (5, .ref (ca 0)), (6, .ref (ca 1)), (7, .ref (ca 2)), (8, .ref (ca 5)), (9, .ref (ca 4))]) dL_works_137 (by decide) rfl ?_
            refine j_iload B dL_works_139 3 rfl ?_
            refine j_iload B dL_works_141 2 rfl ?_
            refine j_if_eq B 151 dL_works_143 (by decide) (fun h105 => absurd h105 (by decide)) (fun h105 => ?_)
            refine j_bipush B (v := (-9)) dL_works_146 (by decide) ?_
            refine j_goto B 163 dL_works_148 (by decide) ?_
            refine j_icmp_ne B 246 dL_works_163 (by decide) (fun h106 => (by clear B hret; grind : False).elim) (fun h106 => ?_)
            refine j_iload B dL_works_166 2 rfl ?_
            refine j_if_ne B 176 dL_works_168 (by decide) (fun h107 => ?_) (fun h107 => absurd h107 (by decide))
            refine j_aload_n B dL_works_176 8 rfl rfl ?_
            refine j_iload_n B dL_works_177 10 rfl rfl ?_
            refine j_ask B (τ1 4 j) 1 [.int (nI j)] (c_X2_stateOf l hl D cD cC cI cZ cL (pvA A ca) τ1 n ad hI1.1 (nI j)) (pv_askD hI1.1 (by omega) 4) q_250 q_251 q_252 q_1 q_253 hdX2_stateOf rfl ⟨Nat.le_of_ble_eq_true rfl, Nat.le_of_ble_eq_true rfl⟩ (Nat.le_of_ble_eq_true rfl) dL_works_178 rfl (12) (72) ⟨Nat.le_of_ble_eq_true rfl, Nat.le_of_ble_eq_true rfl⟩ ⟨Nat.le_of_ble_eq_true rfl, Nat.le_of_ble_eq_true rfl⟩ ?_
            refine j_iload B dL_works_181 7 rfl ?_
            refine j_icmp_ne B 246 dL_works_183 (by decide) (fun h108 => (by clear B hret; grind : False).elim) (fun h108 => ?_)
            refine j_aload_n B dL_works_186 8 rfl rfl ?_
            refine j_iload_n B dL_works_187 10 rfl rfl ?_
            obtain ⟨r109, e110, h111⟩ := pv_done hI1.1 (by omega)
            refine j_ask B r109 1 [.int (nI j)] (c_X2_isDone l hl D cD cC cI cZ cL (pvA A ca) τ1 n ad hI1.1 (nI j)) e110 q_272 q_273 q_274 q_1 q_275 hdX2_isDone rfl ⟨Nat.le_of_ble_eq_true rfl, Nat.le_of_ble_eq_true rfl⟩ (Nat.le_of_ble_eq_true rfl) dL_works_188 rfl (13) (78) ⟨Nat.le_of_ble_eq_true rfl, Nat.le_of_ble_eq_true rfl⟩ ⟨Nat.le_of_ble_eq_true rfl, Nat.le_of_ble_eq_true rfl⟩ ?_
            refine j_iload B dL_works_191 4 rfl ?_
            refine j_icmp_ne B 246 dL_works_193 (by decide) (fun h112 => (by clear B hret; grind : False).elim) (fun h112 => ?_)
            refine j_goto B 228 dL_works_196 (by decide) ?_
            refine j_aload_n B dL_works_228 8 rfl rfl ?_
            refine j_aload B dL_works_229 13 rfl ?_
            refine j_aload B dL_works_231 14 rfl ?_
            refine j_lconst B (v := 1) dL_works_233 (by decide) ?_
            refine j_iload_n B dL_works_234 10 rfl rfl ?_
            refine j_lshl B dL_works_235 ?_
            refine j_lawI B 4 [.ref (ad 0), .ref (ca 0), .ref (ca 1), .long ((1 : Int64) <<< ((nI j).toInt64 &&& 63))] (c_L_areSame l hl D cD cC cI cZ cL A τ1 φ n ad ca f hI1.1 (hc0) ((1 : Int64) <<< ((nI j).toInt64 &&& 63)) (pv_same1 (pv_j64 h hj) hd hE1 (fun _ => rfl))) q_429 q_430 q_0 q_431 hdL_areSame rfl ⟨Nat.le_of_ble_eq_true rfl, Nat.le_of_ble_eq_true rfl⟩ (Nat.le_of_ble_eq_true rfl) dL_works_236 rfl (373) (2238) ⟨Nat.le_of_ble_eq_true rfl, Nat.le_of_ble_eq_true rfl⟩ ⟨Nat.le_of_ble_eq_true rfl, Nat.le_of_ble_eq_true rfl⟩ (fun r113 _ h114 => ?_)
            subst h114
            refine j_if_eq B 246 dL_works_239 (by decide) (fun h115 => absurd h115 (by decide)) (fun h115 => ?_)
            refine j_iconst B (v := 1) dL_works_242 (by decide) ?_
            refine j_goto B 247 dL_works_243 (by decide) ?_
            exact hret 247 _ 1 (τ1, φ, f) (373) (2238) dL_works_247 rfl (Nat.le_of_ble_eq_true rfl) (Nat.le_of_ble_eq_true rfl) ⟨rfl, pvI_le hI1 (by omega)⟩
          · refine j_istore B (L' := [(16, .int 0), (15, .int 1), (14, .int t1), (13, .int r88), (12, .int r86), (11, .int (σ 2 j)), (10, .int (σ 4 j)), (0, .ref (ad 0)), (1, .int 6), (2, .int (nI j)), (3, .int (nI x0)), (4, .int (nI k)), (5, .ref (ca 0)), (6, .ref (ca 1)), (7, .ref (ca 2)), (8, .ref (ca 5)), (9, .ref (ca 4))]) dL_works_124 (by decide) rfl ?_
            refine j_iload_n B dL_works_126 10 rfl rfl ?_
            refine j_iconst B (v := 3) dL_works_127 (by decide) ?_
            refine j_remv B (nI (x0 % 3)) (pv_rem (b := 3) (by omega) (by omega) (by omega)) (by decide) dL_works_128 ?_
            refine j_if_le B 136 dL_works_129 (by decide) (fun h116 => absurd h116 hz) (fun h116 => ?_)
            refine j_iconst B (v := 1) dL_works_132 (by decide) ?_
            refine j_goto B 137 dL_works_133 (by decide) ?_
            refine j_istore B (L' := [(17, .int 1), (16, .int 0), (15, .int 1), (14, .int t1), (13, .int r88), (12, .int r86), (11, .int (σ 2 j)), (10, .int (σ 4 j)), (0, .ref (ad 0)), (1, .int 6), (2, .int (nI j)), (3, .int (nI x0)), (4, .int (nI k)), (5, .ref (ca 0)), (6, .ref (ca 1)), (7, .ref (ca 2)), (8, .ref (ca 5)), (9, .ref (ca 4))]) dL_works_137 (by decide) rfl ?_
            refine j_iload B dL_works_139 3 rfl ?_
            refine j_iload B dL_works_141 2 rfl ?_
            refine j_if_eq B 151 dL_works_143 (by decide) (fun h117 => absurd h117 (by decide)) (fun h117 => ?_)
            refine j_bipush B (v := (-9)) dL_works_146 (by decide) ?_
            refine j_goto B 163 dL_works_148 (by decide) ?_
            refine j_icmp_ne B 246 dL_works_163 (by decide) (fun h118 => (by clear B hret; grind : False).elim) (fun h118 => ?_)
            refine j_iload B dL_works_166 2 rfl ?_
            refine j_if_ne B 176 dL_works_168 (by decide) (fun h119 => ?_) (fun h119 => absurd h119 (by decide))
            refine j_aload_n B dL_works_176 8 rfl rfl ?_
            refine j_iload_n B dL_works_177 10 rfl rfl ?_
            refine j_ask B (τ1 4 j) 1 [.int (nI j)] (c_X2_stateOf l hl D cD cC cI cZ cL (pvA A ca) τ1 n ad hI1.1 (nI j)) (pv_askD hI1.1 (by omega) 4) q_250 q_251 q_252 q_1 q_253 hdX2_stateOf rfl ⟨Nat.le_of_ble_eq_true rfl, Nat.le_of_ble_eq_true rfl⟩ (Nat.le_of_ble_eq_true rfl) dL_works_178 rfl (12) (72) ⟨Nat.le_of_ble_eq_true rfl, Nat.le_of_ble_eq_true rfl⟩ ⟨Nat.le_of_ble_eq_true rfl, Nat.le_of_ble_eq_true rfl⟩ ?_
            refine j_iload B dL_works_181 7 rfl ?_
            refine j_icmp_ne B 246 dL_works_183 (by decide) (fun h120 => (by clear B hret; grind : False).elim) (fun h120 => ?_)
            refine j_aload_n B dL_works_186 8 rfl rfl ?_
            refine j_iload_n B dL_works_187 10 rfl rfl ?_
            obtain ⟨r121, e122, h123⟩ := pv_done hI1.1 (by omega)
            refine j_ask B r121 1 [.int (nI j)] (c_X2_isDone l hl D cD cC cI cZ cL (pvA A ca) τ1 n ad hI1.1 (nI j)) e122 q_272 q_273 q_274 q_1 q_275 hdX2_isDone rfl ⟨Nat.le_of_ble_eq_true rfl, Nat.le_of_ble_eq_true rfl⟩ (Nat.le_of_ble_eq_true rfl) dL_works_188 rfl (13) (78) ⟨Nat.le_of_ble_eq_true rfl, Nat.le_of_ble_eq_true rfl⟩ ⟨Nat.le_of_ble_eq_true rfl, Nat.le_of_ble_eq_true rfl⟩ ?_
            refine j_iload B dL_works_191 4 rfl ?_
            refine j_icmp_ne B 246 dL_works_193 (by decide) (fun h124 => (by clear B hret; grind : False).elim) (fun h124 => ?_)
            refine j_goto B 228 dL_works_196 (by decide) ?_
            refine j_aload_n B dL_works_228 8 rfl rfl ?_
            refine j_aload B dL_works_229 13 rfl ?_
            refine j_aload B dL_works_231 14 rfl ?_
            refine j_lconst B (v := 1) dL_works_233 (by decide) ?_
            refine j_iload_n B dL_works_234 10 rfl rfl ?_
            refine j_lshl B dL_works_235 ?_
            refine j_lawI B 4 [.ref (ad 0), .ref (ca 0), .ref (ca 1), .long ((1 : Int64) <<< ((nI j).toInt64 &&& 63))] (c_L_areSame l hl D cD cC cI cZ cL A τ1 φ n ad ca f hI1.1 (hc0) ((1 : Int64) <<< ((nI j).toInt64 &&& 63)) (pv_same1 (pv_j64 h hj) hd hE1 (fun _ => rfl))) q_429 q_430 q_0 q_431 hdL_areSame rfl ⟨Nat.le_of_ble_eq_true rfl, Nat.le_of_ble_eq_true rfl⟩ (Nat.le_of_ble_eq_true rfl) dL_works_236 rfl (373) (2238) ⟨Nat.le_of_ble_eq_true rfl, Nat.le_of_ble_eq_true rfl⟩ ⟨Nat.le_of_ble_eq_true rfl, Nat.le_of_ble_eq_true rfl⟩ (fun r125 _ h126 => ?_)
            subst h126
            refine j_if_eq B 246 dL_works_239 (by decide) (fun h127 => absurd h127 (by decide)) (fun h127 => ?_)
            refine j_iconst B (v := 1) dL_works_242 (by decide) ?_
            refine j_goto B 247 dL_works_243 (by decide) ?_
            exact hret 247 _ 1 (τ1, φ, f) (373) (2238) dL_works_247 rfl (Nat.le_of_ble_eq_true rfl) (Nat.le_of_ble_eq_true rfl) ⟨rfl, pvI_le hI1 (by omega)⟩
        rcases h87 with ⟨rfl, h128⟩ | ⟨rfl, h128⟩
        · refine j_if_eq B 123 dL_works_110 (by decide) (fun h129 => absurd h129 (by decide)) (fun h129 => ?_)
          refine j_iload B dL_works_113 5 rfl ?_
          refine j_iconst B (v := 1) dL_works_115 (by decide) ?_
          refine j_icmp_ne B 123 dL_works_116 (by decide) (fun h130 => ?_) (fun h130 => ?_)
          · refine j_iconst B (v := 0) dL_works_123 (by decide) ?_
            exact kj100 0 (Or.inr ⟨rfl, by clear B hret kj100; grind⟩)
          · refine j_iconst B (v := 1) dL_works_119 (by decide) ?_
            refine j_goto B 124 dL_works_120 (by decide) ?_
            exact kj100 1 (Or.inl ⟨rfl, by clear B hret kj100; grind⟩)
        · refine j_if_eq B 123 dL_works_110 (by decide) (fun h131 => ?_) (fun h131 => absurd h131 (by decide))
          refine j_iconst B (v := 0) dL_works_123 (by decide) ?_
          exact kj100 0 (Or.inr ⟨rfl, by clear B hret kj100; grind⟩)
      · refine j_istore B (L' := [(15, .int 0), (14, .int t1), (13, .int r88), (12, .int r86), (11, .int (σ 2 j)), (10, .int (σ 4 j)), (0, .ref (ad 0)), (1, .int 6), (2, .int (nI j)), (3, .int (nI x0)), (4, .int (nI k)), (5, .ref (ca 0)), (6, .ref (ca 1)), (7, .ref (ca 2)), (8, .ref (ca 5)), (9, .ref (ca 4))]) dL_works_106 (by decide) rfl ?_
        refine j_iload B dL_works_108 3 rfl ?_
        have kj132 : ∀ v133 : Int32, (v133 = 1 ∧ (pgReach σ j ∧ σ 4 j = 1) ∨ v133 = 0 ∧ ¬ (pgReach σ j ∧ σ 4 j = 1)) → pgJ p l e rm_works_6 s m args below meth cc9 18 A (pvW D cD cC cI cL A τ1 n ad φ ca f) (11) (66) Q 124 [(15, .int 0), (14, .int t1), (13, .int r88), (12, .int r86), (11, .int (σ 2 j)), (10, .int (σ 4 j)), (0, .ref (ad 0)), (1, .int 6), (2, .int (nI j)), (3, .int (nI x0)), (4, .int (nI k)), (5, .ref (ca 0)), (6, .ref (ca 1)), (7, .ref (ca 2)), (8, .ref (ca 5)), (9, .ref (ca 4))] (.int v133 :: []) := by
          intro v133 hv134
          rcases hv134 with ⟨rfl, h135⟩ | ⟨rfl, h135⟩
          · refine j_istore B (L' := [(16, .int 1), (15, .int 0), (14, .int t1), (13, .int r88), (12, .int r86), (11, .int (σ 2 j)), (10, .int (σ 4 j)), (0, .ref (ad 0)), (1, .int 6), (2, .int (nI j)), (3, .int (nI x0)), (4, .int (nI k)), (5, .ref (ca 0)), (6, .ref (ca 1)), (7, .ref (ca 2)), (8, .ref (ca 5)), (9, .ref (ca 4))]) dL_works_124 (by decide) rfl ?_
            refine j_iload_n B dL_works_126 10 rfl rfl ?_
            refine j_iconst B (v := 3) dL_works_127 (by decide) ?_
            refine j_remv B (nI (x0 % 3)) (pv_rem (b := 3) (by omega) (by omega) (by omega)) (by decide) dL_works_128 ?_
            refine j_if_le B 136 dL_works_129 (by decide) (fun h136 => absurd h136 hz) (fun h136 => ?_)
            refine j_iconst B (v := 1) dL_works_132 (by decide) ?_
            refine j_goto B 137 dL_works_133 (by decide) ?_
            refine j_istore B (L' := [(17, .int 1), (16, .int 1), (15, .int 0), (14, .int t1), (13, .int r88), (12, .int r86), (11, .int (σ 2 j)), (10, .int (σ 4 j)), (0, .ref (ad 0)), (1, .int 6), (2, .int (nI j)), (3, .int (nI x0)), (4, .int (nI k)), (5, .ref (ca 0)), (6, .ref (ca 1)), (7, .ref (ca 2)), (8, .ref (ca 5)), (9, .ref (ca 4))]) dL_works_137 (by decide) rfl ?_
            refine j_iload B dL_works_139 3 rfl ?_
            refine j_iload B dL_works_141 2 rfl ?_
            refine j_if_eq B 151 dL_works_143 (by decide) (fun h137 => ?_) (fun h137 => absurd h137 (by decide))
            refine j_iload B dL_works_151 1 rfl ?_
            refine j_if_eq B 161 dL_works_153 (by decide) (fun h138 => absurd h138 (by decide)) (fun h138 => ?_)
            refine j_iload B dL_works_156 0 rfl ?_
            refine j_goto B 163 dL_works_158 (by decide) ?_
            refine j_icmp_ne B 246 dL_works_163 (by decide) (fun h139 => (by clear B hret; grind : False).elim) (fun h139 => ?_)
            refine j_iload B dL_works_166 2 rfl ?_
            refine j_if_ne B 176 dL_works_168 (by decide) (fun h140 => absurd h140 (by decide)) (fun h140 => ?_)
            refine j_iload B dL_works_171 1 rfl ?_
            refine j_if_ne B 199 dL_works_173 (by decide) (fun h141 => ?_) (fun h141 => absurd h141 (by decide))
            refine j_aload_n B dL_works_199 8 rfl rfl ?_
            refine j_iload_n B dL_works_200 10 rfl rfl ?_
            refine j_ask B (τ1 4 j) 1 [.int (nI j)] (c_X2_stateOf l hl D cD cC cI cZ cL (pvA A ca) τ1 n ad hI1.1 (nI j)) (pv_askD hI1.1 (by omega) 4) q_250 q_251 q_252 q_1 q_253 hdX2_stateOf rfl ⟨Nat.le_of_ble_eq_true rfl, Nat.le_of_ble_eq_true rfl⟩ (Nat.le_of_ble_eq_true rfl) dL_works_201 rfl (12) (72) ⟨Nat.le_of_ble_eq_true rfl, Nat.le_of_ble_eq_true rfl⟩ ⟨Nat.le_of_ble_eq_true rfl, Nat.le_of_ble_eq_true rfl⟩ ?_
            refine j_iload B dL_works_204 0 rfl ?_
            refine j_icmp_ne B 246 dL_works_206 (by decide) (fun h142 => (by clear B hret; grind : False).elim) (fun h142 => ?_)
            refine j_aload_n B dL_works_209 8 rfl rfl ?_
            refine j_iload_n B dL_works_210 10 rfl rfl ?_
            obtain ⟨r143, e144, h145⟩ := pv_done hI1.1 (by omega)
            refine j_ask B r143 1 [.int (nI j)] (c_X2_isDone l hl D cD cC cI cZ cL (pvA A ca) τ1 n ad hI1.1 (nI j)) e144 q_272 q_273 q_274 q_1 q_275 hdX2_isDone rfl ⟨Nat.le_of_ble_eq_true rfl, Nat.le_of_ble_eq_true rfl⟩ (Nat.le_of_ble_eq_true rfl) dL_works_211 rfl (13) (78) ⟨Nat.le_of_ble_eq_true rfl, Nat.le_of_ble_eq_true rfl⟩ ⟨Nat.le_of_ble_eq_true rfl, Nat.le_of_ble_eq_true rfl⟩ ?_
            refine j_iload B dL_works_214 0 rfl ?_
            refine j_iconst B (v := 1) dL_works_216 (by decide) ?_
            refine j_icmp_ne B 224 dL_works_217 (by decide) (fun h146 => absurd h146 (by decide)) (fun h146 => ?_)
            refine j_iconst B (v := 1) dL_works_220 (by decide) ?_
            refine j_goto B 225 dL_works_221 (by decide) ?_
            refine j_icmp_ne B 246 dL_works_225 (by decide) (fun h147 => (by clear B hret; grind : False).elim) (fun h147 => ?_)
            refine j_aload_n B dL_works_228 8 rfl rfl ?_
            refine j_aload B dL_works_229 13 rfl ?_
            refine j_aload B dL_works_231 14 rfl ?_
            refine j_lconst B (v := 1) dL_works_233 (by decide) ?_
            refine j_iload_n B dL_works_234 10 rfl rfl ?_
            refine j_lshl B dL_works_235 ?_
            refine j_lawI B 4 [.ref (ad 0), .ref (ca 0), .ref (ca 1), .long ((1 : Int64) <<< ((nI j).toInt64 &&& 63))] (c_L_areSame l hl D cD cC cI cZ cL A τ1 φ n ad ca f hI1.1 (hc0) ((1 : Int64) <<< ((nI j).toInt64 &&& 63)) (pv_same1 (pv_j64 h hj) hd hE1 (fun _ => rfl))) q_429 q_430 q_0 q_431 hdL_areSame rfl ⟨Nat.le_of_ble_eq_true rfl, Nat.le_of_ble_eq_true rfl⟩ (Nat.le_of_ble_eq_true rfl) dL_works_236 rfl (373) (2238) ⟨Nat.le_of_ble_eq_true rfl, Nat.le_of_ble_eq_true rfl⟩ ⟨Nat.le_of_ble_eq_true rfl, Nat.le_of_ble_eq_true rfl⟩ (fun r148 _ h149 => ?_)
            subst h149
            refine j_if_eq B 246 dL_works_239 (by decide) (fun h150 => absurd h150 (by decide)) (fun h150 => ?_)
            refine j_iconst B (v := 1) dL_works_242 (by decide) ?_
            refine j_goto B 247 dL_works_243 (by decide) ?_
            exact hret 247 _ 1 (τ1, φ, f) (373) (2238) dL_works_247 rfl (Nat.le_of_ble_eq_true rfl) (Nat.le_of_ble_eq_true rfl) ⟨rfl, pvI_le hI1 (by omega)⟩
          · refine j_istore B (L' := [(16, .int 0), (15, .int 0), (14, .int t1), (13, .int r88), (12, .int r86), (11, .int (σ 2 j)), (10, .int (σ 4 j)), (0, .ref (ad 0)), (1, .int 6), (2, .int (nI j)), (3, .int (nI x0)), (4, .int (nI k)), (5, .ref (ca 0)), (6, .ref (ca 1)), (7, .ref (ca 2)), (8, .ref (ca 5)), (9, .ref (ca 4))]) dL_works_124 (by decide) rfl ?_
            refine j_iload_n B dL_works_126 10 rfl rfl ?_
            refine j_iconst B (v := 3) dL_works_127 (by decide) ?_
            refine j_remv B (nI (x0 % 3)) (pv_rem (b := 3) (by omega) (by omega) (by omega)) (by decide) dL_works_128 ?_
            refine j_if_le B 136 dL_works_129 (by decide) (fun h151 => absurd h151 hz) (fun h151 => ?_)
            refine j_iconst B (v := 1) dL_works_132 (by decide) ?_
            refine j_goto B 137 dL_works_133 (by decide) ?_
            refine j_istore B (L' := [(17, .int 1), (16, .int 0), (15, .int 0), (14, .int t1), (13, .int r88), (12, .int r86), (11, .int (σ 2 j)), (10, .int (σ 4 j)), (0, .ref (ad 0)), (1, .int 6), (2, .int (nI j)), (3, .int (nI x0)), (4, .int (nI k)), (5, .ref (ca 0)), (6, .ref (ca 1)), (7, .ref (ca 2)), (8, .ref (ca 5)), (9, .ref (ca 4))]) dL_works_137 (by decide) rfl ?_
            refine j_iload B dL_works_139 3 rfl ?_
            refine j_iload B dL_works_141 2 rfl ?_
            refine j_if_eq B 151 dL_works_143 (by decide) (fun h152 => ?_) (fun h152 => absurd h152 (by decide))
            refine j_iload B dL_works_151 1 rfl ?_
            refine j_if_eq B 161 dL_works_153 (by decide) (fun h153 => ?_) (fun h153 => absurd h153 (by decide))
            refine j_bipush B (v := (-8)) dL_works_161 (by decide) ?_
            refine j_icmp_ne B 246 dL_works_163 (by decide) (fun h154 => (by clear B hret; grind : False).elim) (fun h154 => ?_)
            refine j_iload B dL_works_166 2 rfl ?_
            refine j_if_ne B 176 dL_works_168 (by decide) (fun h155 => absurd h155 (by decide)) (fun h155 => ?_)
            refine j_iload B dL_works_171 1 rfl ?_
            refine j_if_ne B 199 dL_works_173 (by decide) (fun h156 => absurd h156 (by decide)) (fun h156 => ?_)
            refine j_aload_n B dL_works_176 8 rfl rfl ?_
            refine j_iload_n B dL_works_177 10 rfl rfl ?_
            refine j_ask B (τ1 4 j) 1 [.int (nI j)] (c_X2_stateOf l hl D cD cC cI cZ cL (pvA A ca) τ1 n ad hI1.1 (nI j)) (pv_askD hI1.1 (by omega) 4) q_250 q_251 q_252 q_1 q_253 hdX2_stateOf rfl ⟨Nat.le_of_ble_eq_true rfl, Nat.le_of_ble_eq_true rfl⟩ (Nat.le_of_ble_eq_true rfl) dL_works_178 rfl (12) (72) ⟨Nat.le_of_ble_eq_true rfl, Nat.le_of_ble_eq_true rfl⟩ ⟨Nat.le_of_ble_eq_true rfl, Nat.le_of_ble_eq_true rfl⟩ ?_
            refine j_iload B dL_works_181 7 rfl ?_
            refine j_icmp_ne B 246 dL_works_183 (by decide) (fun h157 => (by clear B hret; grind : False).elim) (fun h157 => ?_)
            refine j_aload_n B dL_works_186 8 rfl rfl ?_
            refine j_iload_n B dL_works_187 10 rfl rfl ?_
            obtain ⟨r158, e159, h160⟩ := pv_done hI1.1 (by omega)
            refine j_ask B r158 1 [.int (nI j)] (c_X2_isDone l hl D cD cC cI cZ cL (pvA A ca) τ1 n ad hI1.1 (nI j)) e159 q_272 q_273 q_274 q_1 q_275 hdX2_isDone rfl ⟨Nat.le_of_ble_eq_true rfl, Nat.le_of_ble_eq_true rfl⟩ (Nat.le_of_ble_eq_true rfl) dL_works_188 rfl (13) (78) ⟨Nat.le_of_ble_eq_true rfl, Nat.le_of_ble_eq_true rfl⟩ ⟨Nat.le_of_ble_eq_true rfl, Nat.le_of_ble_eq_true rfl⟩ ?_
            refine j_iload B dL_works_191 4 rfl ?_
            refine j_icmp_ne B 246 dL_works_193 (by decide) (fun h161 => (by clear B hret; grind : False).elim) (fun h161 => ?_)
            refine j_goto B 228 dL_works_196 (by decide) ?_
            refine j_aload_n B dL_works_228 8 rfl rfl ?_
            refine j_aload B dL_works_229 13 rfl ?_
            refine j_aload B dL_works_231 14 rfl ?_
            refine j_lconst B (v := 1) dL_works_233 (by decide) ?_
            refine j_iload_n B dL_works_234 10 rfl rfl ?_
            refine j_lshl B dL_works_235 ?_
            refine j_lawI B 4 [.ref (ad 0), .ref (ca 0), .ref (ca 1), .long ((1 : Int64) <<< ((nI j).toInt64 &&& 63))] (c_L_areSame l hl D cD cC cI cZ cL A τ1 φ n ad ca f hI1.1 (hc0) ((1 : Int64) <<< ((nI j).toInt64 &&& 63)) (pv_same1 (pv_j64 h hj) hd hE1 (fun _ => rfl))) q_429 q_430 q_0 q_431 hdL_areSame rfl ⟨Nat.le_of_ble_eq_true rfl, Nat.le_of_ble_eq_true rfl⟩ (Nat.le_of_ble_eq_true rfl) dL_works_236 rfl (373) (2238) ⟨Nat.le_of_ble_eq_true rfl, Nat.le_of_ble_eq_true rfl⟩ ⟨Nat.le_of_ble_eq_true rfl, Nat.le_of_ble_eq_true rfl⟩ (fun r162 _ h163 => ?_)
            subst h163
            refine j_if_eq B 246 dL_works_239 (by decide) (fun h164 => absurd h164 (by decide)) (fun h164 => ?_)
            refine j_iconst B (v := 1) dL_works_242 (by decide) ?_
            refine j_goto B 247 dL_works_243 (by decide) ?_
            exact hret 247 _ 1 (τ1, φ, f) (373) (2238) dL_works_247 rfl (Nat.le_of_ble_eq_true rfl) (Nat.le_of_ble_eq_true rfl) ⟨rfl, pvI_le hI1 (by omega)⟩
        rcases h87 with ⟨rfl, h165⟩ | ⟨rfl, h165⟩
        · refine j_if_eq B 123 dL_works_110 (by decide) (fun h166 => absurd h166 (by decide)) (fun h166 => ?_)
          refine j_iload B dL_works_113 5 rfl ?_
          refine j_iconst B (v := 1) dL_works_115 (by decide) ?_
          refine j_icmp_ne B 123 dL_works_116 (by decide) (fun h167 => ?_) (fun h167 => ?_)
          · refine j_iconst B (v := 0) dL_works_123 (by decide) ?_
            exact kj132 0 (Or.inr ⟨rfl, by clear B hret kj132; grind⟩)
          · refine j_iconst B (v := 1) dL_works_119 (by decide) ?_
            refine j_goto B 124 dL_works_120 (by decide) ?_
            exact kj132 1 (Or.inl ⟨rfl, by clear B hret kj132; grind⟩)
        · refine j_if_eq B 123 dL_works_110 (by decide) (fun h168 => ?_) (fun h168 => absurd h168 (by decide))
          refine j_iconst B (v := 0) dL_works_123 (by decide) ?_
          exact kj132 0 (Or.inr ⟨rfl, by clear B hret kj132; grind⟩)
    refine j_icmp_ne B 105 dL_works_89 (by decide) (fun h169 => ?_) (fun h169 => ?_)
    · refine j_iconst B (v := 0) dL_works_105 (by decide) ?_
      exact kj96 0 (Or.inr ⟨rfl, by clear B hret kj96; grind⟩)
    · refine j_aload B dL_works_92 14 rfl ?_
      refine j_iload_n B dL_works_94 7 rfl rfl ?_
      refine j_pld B (k := 4) (j := j) (v := φ 4 j) (by omega) rfl (show j < 60 by omega) rfl dL_works_95 ?_
      refine j_iload B dL_works_96 9 rfl ?_
      refine j_icmp_ne B 105 dL_works_98 (by decide) (fun h170 => ?_) (fun h170 => ?_)
      · refine j_iconst B (v := 0) dL_works_105 (by decide) ?_
        exact kj96 0 (Or.inr ⟨rfl, by clear B hret kj96; grind⟩)
      · refine j_iconst B (v := 1) dL_works_101 (by decide) ?_
        refine j_goto B 106 dL_works_102 (by decide) ?_
        exact kj96 1 (Or.inl ⟨rfl, by clear B hret kj96; grind⟩)
/-- loses_7 -/
abbrev rm_loses_7 : Room := { frames := 10, cells := 366, slots := 2196, locals := 172 }
set_option maxHeartbeats 4000000 in
set_option maxRecDepth 100000 in
theorem c_L_loses_7 (l : Launch) (hl : l.stackTraces = false) (D : va_G) (cD cC cI cZ cL : ClassId) (A : Nat → Prop) (σ φ : pgSt) (n : Nat) (ad ca : Nat → Nat) (f : Nat → Int64) (Bd : Nat) (h : pvI n σ φ (f 0) Bd) (hd : ∀ i, i < n → φ 1 i = pvE σ i) (j : Nat) (hj : j < n) : Met l yL_loses (.code yL_loses cL_loses 9 (some .boolean) :: pgWd) rm_loses_7 (pgPc D (pgTys cD cC cI cZ cL) A (pvW D cD cC cI cL A σ n ad φ ca f) [.ref (ad 0), .int 7, .int (nI j), .ref (ca 0), .ref (ca 1), .ref (ca 5)]) (va_Qi (fun (r : Int32) (u : pgSt × pgSt × (Nat → Int64)) => r = 1 ∧ pvI n u.1 u.2.1 (u.2.2 0) (Bd + 1)) (fun u t9 => (pvW D cD cC cI cL A u.1 n ad u.2.1 ca u.2.2) t9.heap) A) rm_loses_7.cells rm_loses_7.slots A := by
  refine pv_enter (own := RL) (by decide) rfl (Nat.le_of_ble_eq_true rfl) (fun p e s m args below meth cc9 Q B hret => ?_)
  have hG := h.1
  have hn60 : n ≤ 60 := hG.1
  have hc0 : φ 0 0 = nI n := h.2.1.1
  have hm := h.2.2.2.2.2.2
  have hmj := hm j (by omega)
  refine j_aload B dL_loses_0 5 rfl ?_
  refine j_iload_n B dL_loses_2 2 rfl rfl ?_
  refine j_lawI B 2 [.ref (ca 5), .int (nI j)] (c_L_isMissing l hl D cD cC cI cZ cL A σ φ n ad ca f j (by omega)) q_290 q_291 q_0 q_292 hdL_isMissing rfl ⟨Nat.le_of_ble_eq_true rfl, Nat.le_of_ble_eq_true rfl⟩ (Nat.le_of_ble_eq_true rfl) dL_loses_3 rfl (0) (0) ⟨Nat.le_of_ble_eq_true rfl, Nat.le_of_ble_eq_true rfl⟩ ⟨Nat.le_of_ble_eq_true rfl, Nat.le_of_ble_eq_true rfl⟩ (fun r1 _ h2 => ?_)
  refine j_istore B (L' := [(6, .int r1), (0, .ref (ad 0)), (1, .int 7), (2, .int (nI j)), (3, .ref (ca 0)), (4, .ref (ca 1)), (5, .ref (ca 5))]) dL_loses_6 (by decide) rfl ?_
  refine j_aload_n B dL_loses_8 1 rfl rfl ?_
  refine j_iload_n B dL_loses_9 3 rfl rfl ?_
  refine j_ask B (σ 3 j) 1 [.int (nI j)] (c_X2_crateOf l hl D cD cC cI cZ cL (pvA A ca) σ n ad hG (nI j)) (pv_askD hG (by omega) 3) q_254 q_255 q_256 q_1 q_257 hdX2_crateOf rfl ⟨Nat.le_of_ble_eq_true rfl, Nat.le_of_ble_eq_true rfl⟩ (Nat.le_of_ble_eq_true rfl) dL_loses_10 rfl (1) (6) ⟨Nat.le_of_ble_eq_true rfl, Nat.le_of_ble_eq_true rfl⟩ ⟨Nat.le_of_ble_eq_true rfl, Nat.le_of_ble_eq_true rfl⟩ ?_
  refine j_istore B (L' := [(7, .int (σ 3 j)), (6, .int r1), (0, .ref (ad 0)), (1, .int 7), (2, .int (nI j)), (3, .ref (ca 0)), (4, .ref (ca 1)), (5, .ref (ca 5))]) dL_loses_13 (by decide) rfl ?_
  refine j_aload_n B dL_loses_15 2 rfl rfl ?_
  refine j_iload_n B dL_loses_16 3 rfl rfl ?_
  refine j_iload_n B dL_loses_17 4 rfl rfl ?_
  refine j_iconst B (v := 0) dL_loses_18 (by decide) ?_
  refine j_iconst B (v := 0) dL_loses_19 (by decide) ?_
  obtain ⟨t1, τ1, et, eτ, hS1, hg1, hE1, hA1, hB1⟩ := pv_lose h hj
  have hM := c_L_asks_7 l hl D cD cC cI cZ cL A σ φ n ad ca f hG (nI j) 0 0 hS1
  rw [et, eτ] at hM
  refine j_lawW B 5 [.ref (ad 0), .int 7, .int (nI j), .int 0, .int 0] hM q_305 q_306 q_0 q_307 hdL_asks rfl ⟨Nat.le_of_ble_eq_true rfl, Nat.le_of_ble_eq_true rfl⟩ (Nat.le_of_ble_eq_true rfl) dL_loses_20 rfl (3) (18) ⟨Nat.le_of_ble_eq_true rfl, Nat.le_of_ble_eq_true rfl⟩ ⟨Nat.le_of_ble_eq_true rfl, Nat.le_of_ble_eq_true rfl⟩ (fun r3 _ h4 => ?_)
  rw [h4]
  clear hM h4 r3
  refine j_istore B (L' := [(8, .int t1), (7, .int (σ 3 j)), (6, .int r1), (0, .ref (ad 0)), (1, .int 7), (2, .int (nI j)), (3, .ref (ca 0)), (4, .ref (ca 1)), (5, .ref (ca 5))]) dL_loses_23 (by decide) rfl ?_
  refine j_iload B dL_loses_25 2 rfl ?_
  refine j_iload_n B dL_loses_27 4 rfl rfl ?_
  refine j_bipush B (v := 7) dL_loses_28 (by decide) ?_
  refine j_icmp_ne B 37 dL_loses_30 (by decide) (fun h5 => absurd h5 (by decide)) (fun h5 => ?_)
  refine j_iconst B (v := 1) dL_loses_33 (by decide) ?_
  refine j_goto B 38 dL_loses_34 (by decide) ?_
  rcases h2 with ⟨rfl, h6⟩ | ⟨rfl, h6⟩
  · refine j_icmp_ne B 65 dL_loses_38 (by decide) (fun h7 => absurd h7 (by decide)) (fun h7 => ?_)
    refine j_iload B dL_loses_41 0 rfl ?_
    refine j_bipush B (v := (-8)) dL_loses_43 (by decide) ?_
    refine j_icmp_ne B 63 dL_loses_45 (by decide) (fun h8 => (by clear B hret; grind : False).elim) (fun h8 => ?_)
    refine j_aload_n B dL_loses_48 3 rfl rfl ?_
    refine j_aload_n B dL_loses_49 6 rfl rfl ?_
    refine j_aload B dL_loses_50 7 rfl ?_
    refine j_lconst B (v := 0) dL_loses_52 (by decide) ?_
    refine j_lawI B 4 [.ref (ad 0), .ref (ca 0), .ref (ca 1), .long 0] (c_L_areSame l hl D cD cC cI cZ cL A τ1 φ n ad ca f hg1 (hc0) 0 (pv_same0 hd ((hA1 (by clear B hret; grind)).2.1) (fun _ => rfl))) q_429 q_430 q_0 q_431 hdL_areSame rfl ⟨Nat.le_of_ble_eq_true rfl, Nat.le_of_ble_eq_true rfl⟩ (Nat.le_of_ble_eq_true rfl) dL_loses_53 rfl (363) (2178) ⟨Nat.le_of_ble_eq_true rfl, Nat.le_of_ble_eq_true rfl⟩ ⟨Nat.le_of_ble_eq_true rfl, Nat.le_of_ble_eq_true rfl⟩ (fun r9 _ h10 => ?_)
    subst h10
    refine j_if_eq B 63 dL_loses_56 (by decide) (fun h11 => absurd h11 (by decide)) (fun h11 => ?_)
    refine j_iconst B (v := 1) dL_loses_59 (by decide) ?_
    refine j_goto B 64 dL_loses_60 (by decide) ?_
    exact hret 64 _ 1 (τ1, φ, f) (363) (2178) dL_loses_64 rfl (Nat.le_of_ble_eq_true rfl) (Nat.le_of_ble_eq_true rfl) ⟨rfl, show pvI n τ1 φ (f 0) (Bd + 1) from pvI_le (Bd := Bd) (hA1 (by clear B hret; grind)).2.2 (by omega)⟩
  · refine j_icmp_ne B 65 dL_loses_38 (by decide) (fun h12 => ?_) (fun h12 => absurd h12 (by decide))
    refine j_aload B dL_loses_65 8 rfl ?_
    refine j_iconst B (v := 0) dL_loses_67 (by decide) ?_
    refine j_dup2 B dL_loses_68 rfl rfl ?_
    refine j_plL B dL_loses_69 ?_
    refine j_lconst B (v := 1) dL_loses_70 (by decide) ?_
    refine j_iload_n B dL_loses_71 5 rfl rfl ?_
    refine j_lshl B dL_loses_72 ?_
    refine j_lxor B dL_loses_73 ?_
    refine j_psL B dL_loses_74 ?_
    refine j_iload B dL_loses_75 0 rfl ?_
    refine j_iload_n B dL_loses_77 4 rfl rfl ?_
    refine j_bipush B (v := 7) dL_loses_78 (by decide) ?_
    refine j_icmp_ne B 91 dL_loses_80 (by decide) (fun h13 => absurd h13 (by decide)) (fun h13 => ?_)
    refine j_aload_n B dL_loses_83 3 rfl rfl ?_
    refine j_iload_n B dL_loses_84 5 rfl rfl ?_
    refine j_ask B (τ1 2 j) 1 [.int (nI j)] (c_X2_keeperOf l hl D cD cC cI cZ cL (pvA A ca) τ1 n ad hg1 (nI j)) (pv_askD hg1 (by omega) 2) q_241 q_242 q_243 q_1 q_244 hdX2_keeperOf rfl ⟨Nat.le_of_ble_eq_true rfl, Nat.le_of_ble_eq_true rfl⟩ (Nat.le_of_ble_eq_true rfl) dL_loses_85 rfl (4) (24) ⟨Nat.le_of_ble_eq_true rfl, Nat.le_of_ble_eq_true rfl⟩ ⟨Nat.le_of_ble_eq_true rfl, Nat.le_of_ble_eq_true rfl⟩ ?_
    refine j_goto B 93 dL_loses_88 (by decide) ?_
    refine j_icmp_ne B 132 dL_loses_93 (by decide) (fun h14 => (by clear B hret; grind : False).elim) (fun h14 => ?_)
    refine j_aload_n B dL_loses_96 3 rfl rfl ?_
    refine j_iload_n B dL_loses_97 5 rfl rfl ?_
    refine j_ask B (τ1 3 j) 1 [.int (nI j)] (c_X2_crateOf l hl D cD cC cI cZ cL (pvA A ca) τ1 n ad hg1 (nI j)) (pv_askD hg1 (by omega) 3) q_254 q_255 q_256 q_1 q_257 hdX2_crateOf rfl ⟨Nat.le_of_ble_eq_true rfl, Nat.le_of_ble_eq_true rfl⟩ (Nat.le_of_ble_eq_true rfl) dL_loses_98 rfl (5) (30) ⟨Nat.le_of_ble_eq_true rfl, Nat.le_of_ble_eq_true rfl⟩ ⟨Nat.le_of_ble_eq_true rfl, Nat.le_of_ble_eq_true rfl⟩ ?_
    refine j_iload B dL_loses_101 1 rfl ?_
    refine j_icmp_ne B 132 dL_loses_103 (by decide) (fun h15 => (by clear B hret; grind : False).elim) (fun h15 => ?_)
    refine j_aload_n B dL_loses_106 3 rfl rfl ?_
    refine j_iload_n B dL_loses_107 5 rfl rfl ?_
    refine j_ask B (τ1 6 j) 1 [.int (nI j)] (c_X2_offeredTo l hl D cD cC cI cZ cL (pvA A ca) τ1 n ad hg1 (nI j)) (pv_askD hg1 (by omega) 6) q_268 q_269 q_270 q_1 q_271 hdX2_offeredTo rfl ⟨Nat.le_of_ble_eq_true rfl, Nat.le_of_ble_eq_true rfl⟩ (Nat.le_of_ble_eq_true rfl) dL_loses_108 rfl (6) (36) ⟨Nat.le_of_ble_eq_true rfl, Nat.le_of_ble_eq_true rfl⟩ ⟨Nat.le_of_ble_eq_true rfl, Nat.le_of_ble_eq_true rfl⟩ ?_
    refine j_iconst B (v := (-1)) dL_loses_111 (by decide) ?_
    refine j_icmp_ne B 132 dL_loses_112 (by decide) (fun h16 => (by clear B hret; grind : False).elim) (fun h16 => ?_)
    refine j_aload_n B dL_loses_115 3 rfl rfl ?_
    refine j_aload_n B dL_loses_116 6 rfl rfl ?_
    refine j_aload B dL_loses_117 7 rfl ?_
    refine j_lconst B (v := 1) dL_loses_119 (by decide) ?_
    refine j_iload_n B dL_loses_120 5 rfl rfl ?_
    refine j_lshl B dL_loses_121 ?_
    refine j_lawI B 4 [.ref (ad 0), .ref (ca 0), .ref (ca 1), .long ((1 : Int64) <<< ((nI j).toInt64 &&& 63))] (c_L_areSame l hl D cD cC cI cZ cL A τ1 φ n ad ca (vp_updL f 0 ((f 0) ^^^ ((1 : Int64) <<< ((nI j).toInt64 &&& 63)))) hg1 (hc0) ((1 : Int64) <<< ((nI j).toInt64 &&& 63)) (pv_same1 (pv_j64 h hj) hd hE1 (fun _ => rfl))) q_429 q_430 q_0 q_431 hdL_areSame rfl ⟨Nat.le_of_ble_eq_true rfl, Nat.le_of_ble_eq_true rfl⟩ (Nat.le_of_ble_eq_true rfl) dL_loses_122 rfl (366) (2196) ⟨Nat.le_of_ble_eq_true rfl, Nat.le_of_ble_eq_true rfl⟩ ⟨Nat.le_of_ble_eq_true rfl, Nat.le_of_ble_eq_true rfl⟩ (fun r17 _ h18 => ?_)
    subst h18
    refine j_if_eq B 132 dL_loses_125 (by decide) (fun h19 => absurd h19 (by decide)) (fun h19 => ?_)
    refine j_iconst B (v := 1) dL_loses_128 (by decide) ?_
    refine j_goto B 133 dL_loses_129 (by decide) ?_
    exact hret 133 _ 1 (τ1, φ, vp_updL f 0 ((f 0) ^^^ ((1 : Int64) <<< ((nI j).toInt64 &&& 63)))) (366) (2196) dL_loses_133 rfl (Nat.le_of_ble_eq_true rfl) (Nat.le_of_ble_eq_true rfl) ⟨rfl, show pvI n τ1 φ ((vp_updL f 0 ((f 0) ^^^ ((1 : Int64) <<< ((nI j).toInt64 &&& 63)))) 0) (Bd + 1) from by rw [pk_uLs]; exact pvI_le (Bd := Bd) (hB1 (by clear B hret; grind)).2.2.2 (by omega)⟩
/-- loses_8 -/
abbrev rm_loses_8 : Room := { frames := 10, cells := 365, slots := 2190, locals := 172 }
set_option maxHeartbeats 4000000 in
set_option maxRecDepth 100000 in
theorem c_L_loses_8 (l : Launch) (hl : l.stackTraces = false) (D : va_G) (cD cC cI cZ cL : ClassId) (A : Nat → Prop) (σ φ : pgSt) (n : Nat) (ad ca : Nat → Nat) (f : Nat → Int64) (Bd : Nat) (h : pvI n σ φ (f 0) Bd) (hd : ∀ i, i < n → φ 1 i = pvE σ i) (j : Nat) (hj : j < n) : Met l yL_loses (.code yL_loses cL_loses 9 (some .boolean) :: pgWd) rm_loses_8 (pgPc D (pgTys cD cC cI cZ cL) A (pvW D cD cC cI cL A σ n ad φ ca f) [.ref (ad 0), .int 8, .int (nI j), .ref (ca 0), .ref (ca 1), .ref (ca 5)]) (va_Qi (fun (r : Int32) (u : pgSt × pgSt × (Nat → Int64)) => r = 1 ∧ pvI n u.1 u.2.1 (u.2.2 0) (Bd + 1)) (fun u t9 => (pvW D cD cC cI cL A u.1 n ad u.2.1 ca u.2.2) t9.heap) A) rm_loses_8.cells rm_loses_8.slots A := by
  refine pv_enter (own := RL) (by decide) rfl (Nat.le_of_ble_eq_true rfl) (fun p e s m args below meth cc9 Q B hret => ?_)
  have hG := h.1
  have hn60 : n ≤ 60 := hG.1
  have hc0 : φ 0 0 = nI n := h.2.1.1
  have hm := h.2.2.2.2.2.2
  have hmj := hm j (by omega)
  refine j_aload B dL_loses_0 5 rfl ?_
  refine j_iload_n B dL_loses_2 2 rfl rfl ?_
  refine j_lawI B 2 [.ref (ca 5), .int (nI j)] (c_L_isMissing l hl D cD cC cI cZ cL A σ φ n ad ca f j (by omega)) q_290 q_291 q_0 q_292 hdL_isMissing rfl ⟨Nat.le_of_ble_eq_true rfl, Nat.le_of_ble_eq_true rfl⟩ (Nat.le_of_ble_eq_true rfl) dL_loses_3 rfl (0) (0) ⟨Nat.le_of_ble_eq_true rfl, Nat.le_of_ble_eq_true rfl⟩ ⟨Nat.le_of_ble_eq_true rfl, Nat.le_of_ble_eq_true rfl⟩ (fun r1 _ h2 => ?_)
  refine j_istore B (L' := [(6, .int r1), (0, .ref (ad 0)), (1, .int 8), (2, .int (nI j)), (3, .ref (ca 0)), (4, .ref (ca 1)), (5, .ref (ca 5))]) dL_loses_6 (by decide) rfl ?_
  refine j_aload_n B dL_loses_8 1 rfl rfl ?_
  refine j_iload_n B dL_loses_9 3 rfl rfl ?_
  refine j_ask B (σ 3 j) 1 [.int (nI j)] (c_X2_crateOf l hl D cD cC cI cZ cL (pvA A ca) σ n ad hG (nI j)) (pv_askD hG (by omega) 3) q_254 q_255 q_256 q_1 q_257 hdX2_crateOf rfl ⟨Nat.le_of_ble_eq_true rfl, Nat.le_of_ble_eq_true rfl⟩ (Nat.le_of_ble_eq_true rfl) dL_loses_10 rfl (1) (6) ⟨Nat.le_of_ble_eq_true rfl, Nat.le_of_ble_eq_true rfl⟩ ⟨Nat.le_of_ble_eq_true rfl, Nat.le_of_ble_eq_true rfl⟩ ?_
  refine j_istore B (L' := [(7, .int (σ 3 j)), (6, .int r1), (0, .ref (ad 0)), (1, .int 8), (2, .int (nI j)), (3, .ref (ca 0)), (4, .ref (ca 1)), (5, .ref (ca 5))]) dL_loses_13 (by decide) rfl ?_
  refine j_aload_n B dL_loses_15 2 rfl rfl ?_
  refine j_iload_n B dL_loses_16 3 rfl rfl ?_
  refine j_iload_n B dL_loses_17 4 rfl rfl ?_
  refine j_iconst B (v := 0) dL_loses_18 (by decide) ?_
  refine j_iconst B (v := 0) dL_loses_19 (by decide) ?_
  obtain ⟨t1, τ1, et, eτ, hS1, hg1, hE1, hA1, hB1⟩ := pv_find h hj
  have hM := c_L_asks_8 l hl D cD cC cI cZ cL A σ φ n ad ca f hG (nI j) 0 0 hS1
  rw [et, eτ] at hM
  refine j_lawW B 5 [.ref (ad 0), .int 8, .int (nI j), .int 0, .int 0] hM q_305 q_306 q_0 q_307 hdL_asks rfl ⟨Nat.le_of_ble_eq_true rfl, Nat.le_of_ble_eq_true rfl⟩ (Nat.le_of_ble_eq_true rfl) dL_loses_20 rfl (3) (18) ⟨Nat.le_of_ble_eq_true rfl, Nat.le_of_ble_eq_true rfl⟩ ⟨Nat.le_of_ble_eq_true rfl, Nat.le_of_ble_eq_true rfl⟩ (fun r3 _ h4 => ?_)
  rw [h4]
  clear hM h4 r3
  refine j_istore B (L' := [(8, .int t1), (7, .int (σ 3 j)), (6, .int r1), (0, .ref (ad 0)), (1, .int 8), (2, .int (nI j)), (3, .ref (ca 0)), (4, .ref (ca 1)), (5, .ref (ca 5))]) dL_loses_23 (by decide) rfl ?_
  refine j_iload B dL_loses_25 2 rfl ?_
  refine j_iload_n B dL_loses_27 4 rfl rfl ?_
  refine j_bipush B (v := 7) dL_loses_28 (by decide) ?_
  refine j_icmp_ne B 37 dL_loses_30 (by decide) (fun h5 => ?_) (fun h5 => absurd h5 (by decide))
  refine j_iconst B (v := 0) dL_loses_37 (by decide) ?_
  rcases h2 with ⟨rfl, h6⟩ | ⟨rfl, h6⟩
  · refine j_icmp_ne B 65 dL_loses_38 (by decide) (fun h7 => ?_) (fun h7 => absurd h7 (by decide))
    refine j_aload B dL_loses_65 8 rfl ?_
    refine j_iconst B (v := 0) dL_loses_67 (by decide) ?_
    refine j_dup2 B dL_loses_68 rfl rfl ?_
    refine j_plL B dL_loses_69 ?_
    refine j_lconst B (v := 1) dL_loses_70 (by decide) ?_
    refine j_iload_n B dL_loses_71 5 rfl rfl ?_
    refine j_lshl B dL_loses_72 ?_
    refine j_lxor B dL_loses_73 ?_
    refine j_psL B dL_loses_74 ?_
    refine j_iload B dL_loses_75 0 rfl ?_
    refine j_iload_n B dL_loses_77 4 rfl rfl ?_
    refine j_bipush B (v := 7) dL_loses_78 (by decide) ?_
    refine j_icmp_ne B 91 dL_loses_80 (by decide) (fun h8 => ?_) (fun h8 => absurd h8 (by decide))
    refine j_iload B dL_loses_91 1 rfl ?_
    refine j_icmp_ne B 132 dL_loses_93 (by decide) (fun h9 => (by clear B hret; grind : False).elim) (fun h9 => ?_)
    refine j_aload_n B dL_loses_96 3 rfl rfl ?_
    refine j_iload_n B dL_loses_97 5 rfl rfl ?_
    refine j_ask B (τ1 3 j) 1 [.int (nI j)] (c_X2_crateOf l hl D cD cC cI cZ cL (pvA A ca) τ1 n ad hg1 (nI j)) (pv_askD hg1 (by omega) 3) q_254 q_255 q_256 q_1 q_257 hdX2_crateOf rfl ⟨Nat.le_of_ble_eq_true rfl, Nat.le_of_ble_eq_true rfl⟩ (Nat.le_of_ble_eq_true rfl) dL_loses_98 rfl (4) (24) ⟨Nat.le_of_ble_eq_true rfl, Nat.le_of_ble_eq_true rfl⟩ ⟨Nat.le_of_ble_eq_true rfl, Nat.le_of_ble_eq_true rfl⟩ ?_
    refine j_iload B dL_loses_101 1 rfl ?_
    refine j_icmp_ne B 132 dL_loses_103 (by decide) (fun h10 => (by clear B hret; grind : False).elim) (fun h10 => ?_)
    refine j_aload_n B dL_loses_106 3 rfl rfl ?_
    refine j_iload_n B dL_loses_107 5 rfl rfl ?_
    refine j_ask B (τ1 6 j) 1 [.int (nI j)] (c_X2_offeredTo l hl D cD cC cI cZ cL (pvA A ca) τ1 n ad hg1 (nI j)) (pv_askD hg1 (by omega) 6) q_268 q_269 q_270 q_1 q_271 hdX2_offeredTo rfl ⟨Nat.le_of_ble_eq_true rfl, Nat.le_of_ble_eq_true rfl⟩ (Nat.le_of_ble_eq_true rfl) dL_loses_108 rfl (5) (30) ⟨Nat.le_of_ble_eq_true rfl, Nat.le_of_ble_eq_true rfl⟩ ⟨Nat.le_of_ble_eq_true rfl, Nat.le_of_ble_eq_true rfl⟩ ?_
    refine j_iconst B (v := (-1)) dL_loses_111 (by decide) ?_
    refine j_icmp_ne B 132 dL_loses_112 (by decide) (fun h11 => (by clear B hret; grind : False).elim) (fun h11 => ?_)
    refine j_aload_n B dL_loses_115 3 rfl rfl ?_
    refine j_aload_n B dL_loses_116 6 rfl rfl ?_
    refine j_aload B dL_loses_117 7 rfl ?_
    refine j_lconst B (v := 1) dL_loses_119 (by decide) ?_
    refine j_iload_n B dL_loses_120 5 rfl rfl ?_
    refine j_lshl B dL_loses_121 ?_
    refine j_lawI B 4 [.ref (ad 0), .ref (ca 0), .ref (ca 1), .long ((1 : Int64) <<< ((nI j).toInt64 &&& 63))] (c_L_areSame l hl D cD cC cI cZ cL A τ1 φ n ad ca (vp_updL f 0 ((f 0) ^^^ ((1 : Int64) <<< ((nI j).toInt64 &&& 63)))) hg1 (hc0) ((1 : Int64) <<< ((nI j).toInt64 &&& 63)) (pv_same1 (pv_j64 h hj) hd hE1 (fun _ => rfl))) q_429 q_430 q_0 q_431 hdL_areSame rfl ⟨Nat.le_of_ble_eq_true rfl, Nat.le_of_ble_eq_true rfl⟩ (Nat.le_of_ble_eq_true rfl) dL_loses_122 rfl (365) (2190) ⟨Nat.le_of_ble_eq_true rfl, Nat.le_of_ble_eq_true rfl⟩ ⟨Nat.le_of_ble_eq_true rfl, Nat.le_of_ble_eq_true rfl⟩ (fun r12 _ h13 => ?_)
    subst h13
    refine j_if_eq B 132 dL_loses_125 (by decide) (fun h14 => absurd h14 (by decide)) (fun h14 => ?_)
    refine j_iconst B (v := 1) dL_loses_128 (by decide) ?_
    refine j_goto B 133 dL_loses_129 (by decide) ?_
    exact hret 133 _ 1 (τ1, φ, vp_updL f 0 ((f 0) ^^^ ((1 : Int64) <<< ((nI j).toInt64 &&& 63)))) (365) (2190) dL_loses_133 rfl (Nat.le_of_ble_eq_true rfl) (Nat.le_of_ble_eq_true rfl) ⟨rfl, show pvI n τ1 φ ((vp_updL f 0 ((f 0) ^^^ ((1 : Int64) <<< ((nI j).toInt64 &&& 63)))) 0) (Bd + 1) from by rw [pk_uLs]; exact pvI_le (Bd := Bd) (hB1 (by clear B hret; grind)).2.2.2 (by omega)⟩
  · refine j_icmp_ne B 65 dL_loses_38 (by decide) (fun h15 => absurd h15 (by decide)) (fun h15 => ?_)
    refine j_iload B dL_loses_41 0 rfl ?_
    refine j_bipush B (v := (-8)) dL_loses_43 (by decide) ?_
    refine j_icmp_ne B 63 dL_loses_45 (by decide) (fun h16 => (by clear B hret; grind : False).elim) (fun h16 => ?_)
    refine j_aload_n B dL_loses_48 3 rfl rfl ?_
    refine j_aload_n B dL_loses_49 6 rfl rfl ?_
    refine j_aload B dL_loses_50 7 rfl ?_
    refine j_lconst B (v := 0) dL_loses_52 (by decide) ?_
    refine j_lawI B 4 [.ref (ad 0), .ref (ca 0), .ref (ca 1), .long 0] (c_L_areSame l hl D cD cC cI cZ cL A τ1 φ n ad ca f hg1 (hc0) 0 (pv_same0 hd ((hA1 (by clear B hret; grind)).2.1) (fun _ => rfl))) q_429 q_430 q_0 q_431 hdL_areSame rfl ⟨Nat.le_of_ble_eq_true rfl, Nat.le_of_ble_eq_true rfl⟩ (Nat.le_of_ble_eq_true rfl) dL_loses_53 rfl (363) (2178) ⟨Nat.le_of_ble_eq_true rfl, Nat.le_of_ble_eq_true rfl⟩ ⟨Nat.le_of_ble_eq_true rfl, Nat.le_of_ble_eq_true rfl⟩ (fun r17 _ h18 => ?_)
    subst h18
    refine j_if_eq B 63 dL_loses_56 (by decide) (fun h19 => absurd h19 (by decide)) (fun h19 => ?_)
    refine j_iconst B (v := 1) dL_loses_59 (by decide) ?_
    refine j_goto B 64 dL_loses_60 (by decide) ?_
    exact hret 64 _ 1 (τ1, φ, f) (363) (2178) dL_loses_64 rfl (Nat.le_of_ble_eq_true rfl) (Nat.le_of_ble_eq_true rfl) ⟨rfl, show pvI n τ1 φ (f 0) (Bd + 1) from pvI_le (Bd := Bd) (hA1 (by clear B hret; grind)).2.2 (by omega)⟩
