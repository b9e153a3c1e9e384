theorem pg_le4 {L0 j : Nat} (hL : L0 ≤ 2048) (hj : 4 * j ≤ L0) (h : ¬ Int32.ofNat L0 - 4 < nI (4 * j)) : 4 * j + 4 ≤ L0 := by
  by_cases z : 4 ≤ L0
  · obtain ⟨k, rfl⟩ : ∃ k, L0 = k + 4 := ⟨L0 - 4, by omega⟩
    have e : Int32.ofNat (k + 4) - 4 = nI k := by
      have e1 : nI k + 4 = nI (k + 4) := nI_add k 4
      show nI (k + 4) - 4 = nI k
      rw [← e1]
      exact Int32.add_sub_cancel _ _
    rw [e] at h
    have h2 : ¬ k < 4 * j := fun z2 => h ((nI_ltI (by omega) (by omega)).mpr z2)
    omega
  · have hj0 : j = 0 := by omega
    subst hj0
    refine absurd ?_ h
    rcases (show L0 = 0 ∨ L0 = 1 ∨ L0 = 2 ∨ L0 = 3 by omega) with rfl | rfl | rfl | rfl <;> decide
theorem pgI_s0 : pgI 0 pgS0 := by
  refine ⟨by omega, rfl, fun j hj => by omega, ⟨0, by omega, rfl, fun c hc => Or.inl (by simp [pgS0, hc])⟩, fun j _ => ⟨by simp [pgS0], by simp [pgS0], by simp [pgS0]⟩, fun j hj => by omega⟩
theorem pgRho_s0 : pgRho pgS0 (fun _ => 0) := fun c k _ _ _ => by simp [pgS0]
theorem j_lawEnd {p : Program} {l : Launch} {e : Env} {s : State} {m : MethodId} {below : List Frame} {meth : Method} {c : Code} {D : va_G} {tys : List (ClassId × FieldType)} {b : Nat} {Wd : Heap → Prop} {cells slots pc : Nat} {L : List (Nat × Value)} (B : pgB p m c s #[Value.ref b] meth RL cL_law 7 D tys (fun q : Nat => s.heap.size ≤ q)) (hr : meth.sig.returnType = ret) (hc : cells ≤ 601024) (hs : slots ≤ 7293034) (hdg : decode cL_law pc = .ok (.ireturn, 1)) : pgJ p l e room_1 s m #[Value.ref b] below meth c 7 (fun q : Nat => s.heap.size ≤ q) Wd cells slots (lw_Z below #[Value.ref b] s) pc L [.int 1] := fun H locs ls hS _ _ => va_forget hS.2.2 (W.widen hc hs (lw_ret B.1 B.2.1 hr B.2.2.2.2.2.1 hdg))

set_option maxHeartbeats 4000000 in
set_option maxRecDepth 100000 in
/-- the law's loop, from its head -/
theorem law_loop {p : Program} {l : Launch} {e : Env} {s : State} {m : MethodId} {below : List Frame} {meth : Method} {c : Code} {D : va_G} {cD cC cI cZ cL : ClassId} {b L0 : Nat} {xs : Nat → Int32} (hl : l.stackTraces = false) (B : pgB p m c s #[Value.ref b] meth RL cL_law 7 D (pgTys cD cC cI cZ cL) (fun q : Nat => s.heap.size ≤ q)) (hr : meth.sig.returnType = ret) (hX : va_X b L0 xs s s.heap) (hbl : b < s.heap.size) (hbA : ¬ (fun q : Nat => s.heap.size ≤ q) b) (hL : L0 ≤ 2048) {o x : Nat} {md : Nat → Nat} : ∀ (fuel j : Nat), 4 * j ≤ L0 → L0 < 4 * j + fuel → ∀ (σ : pgSt) (n : Nat) (ad : Nat → Nat) (f : Nat → Int64) (ρ : Nat → Int32) (th : Int32), pgI n σ → pgRho σ ρ → ad 0 = x →
    pgJ p l e room_1 s m #[Value.ref b] below meth c 7 (fun q : Nat => s.heap.size ≤ q) (pgWL D cD cC cI cZ cL (fun q : Nat => s.heap.size ≤ q) σ n ad o f σ ρ th md) (28 + 5 * j) (864 + 30 * j) (lw_Z below #[Value.ref b] s) 23 [(4, .int (nI (4 * j))), (3, .ref o), (2, .ref (md 0)), (1, .ref x), (0, .ref b)] [] := by
  intro fuel
  induction fuel with
  | zero =>
    intro j h1 h2
    omega
  | succ fuel ih =>
    intro j h1 h2 σ n ad f ρ th hI hR hx
    refine j_iload B dL_law_23 0 rfl ?_
    refine j_aload_n B dL_law_25 4 rfl rfl ?_
    refine j_slen B hX hbl hbA dL_law_26 ?_
    refine j_iconst B (v := 4) dL_law_27 (by decide) ?_
    refine j_isub B dL_law_28 ?_
    refine j_icmp_gt B 1766 dL_law_29 (by decide) (fun _ => ?_) (fun h3 => ?_)
    · refine j_iconst B (v := 1) dL_law_1766 (by decide) ?_
      exact j_lawEnd B hr (by omega) (by omega) dL_law_1767
    have h4 := pg_le4 hL h1 h3
    have g0 : vp_in (nI (4 * j)) L0 := vp_in_nI (by omega) (by omega)
    have g1 : vp_in (nI (4 * j) + 1) L0 := by
      rw [show nI (4 * j) + 1 = nI (4 * j + 1) from nI_add (4 * j) 1]
      exact vp_in_nI (by omega) (by omega)
    have g2 : vp_in (nI (4 * j) + 2) L0 := by
      rw [show nI (4 * j) + 2 = nI (4 * j + 2) from nI_add (4 * j) 2]
      exact vp_in_nI (by omega) (by omega)
    have g3 : vp_in (nI (4 * j) + 3) L0 := by
      rw [show nI (4 * j) + 3 = nI (4 * j + 3) from nI_add (4 * j) 3]
      exact vp_in_nI (by omega) (by omega)
    have kk : ∀ (σ2 : pgSt) (n2 : Nat) (ad2 : Nat → Nat) (f2 : Nat → Int64) (ρ2 : Nat → Int32) (th2 : Int32), pgI n2 σ2 → pgRho σ2 ρ2 → ad2 0 = ad 0 → pgJ p l e room_1 s m #[Value.ref b] below meth c 7 (fun q : Nat => s.heap.size ≤ q) (pgWL D cD cC cI cZ cL (fun q : Nat => s.heap.size ≤ q) σ2 n2 ad2 o f2 σ2 ρ2 th2 md) (28 + 5 * j + 5) (864 + 30 * j + 30) (lw_Z below #[Value.ref b] s) 1760 [(4, .int (nI (4 * j))), (3, .ref o), (2, .ref (md 0)), (1, .ref (ad 0)), (0, .ref b)] [] := by
      intro σ2 n2 ad2 f2 ρ2 th2 hI2 hR2 hx2
      refine j_iinc B (v := nI (4 * (j + 1))) (L' := [(4, .int (nI (4 * (j + 1)))), (3, .ref o), (2, .ref (md 0)), (1, .ref x), (0, .ref b)]) dL_law_1760 0 rfl (by
        show nI (4 * j) + nI 4 = nI (4 * j + 4)
        exact nI_add _ _) (by decide) (by rw [hx] <;> rfl) ?_
      refine j_goto B 23 dL_law_1763 (by decide) ?_
      refine j_widen (k := 28 + 5 * (j + 1)) (n := 864 + 30 * (j + 1)) (by omega) (by omega) ?_
      exact ih (j + 1) (by omega) (by omega) σ2 n2 ad2 f2 ρ2 th2 hI2 hR2 (hx2.trans hx)
    have hcl : 28 + 5 * j + 5 ≤ room_1.cells ∧ 864 + 30 * j + 30 ≤ room_1.slots := ⟨show 28 + 5 * j + 5 ≤ 601024 by omega, show 864 + 30 * j + 30 ≤ 7293034 by omega⟩
    subst hx
    refine j_aload_n B dL_law_32 4 rfl rfl ?_
    refine j_iload B dL_law_33 0 rfl ?_
    refine j_sld B hX hbl hbA g0 dL_law_35 ?_
    refine j_bipush B (v := 31) dL_law_36 (by decide) ?_
    refine j_iand B dL_law_38 ?_
    generalize hw : xs (nI (4 * j)).toNatClampNeg &&& 31 = w
    by_cases ho : w.toInt < 0 ∨ 28 < w.toInt
    · refine j_tabOut B 1760 dL_law_39 ho (by decide) ?_
      refine j_widen (k := 28 + 5 * j + 5) (n := 864 + 30 * j + 30) (by omega) (by omega) ?_
      exact kk σ n ad f ρ th hI hR rfl
    rcases (show w.toInt = 0 ∨ w.toInt = 1 ∨ w.toInt = 2 ∨ w.toInt = 3 ∨ w.toInt = 4 ∨ w.toInt = 5 ∨ w.toInt = 6 ∨ w.toInt = 7 ∨ w.toInt = 8 ∨ w.toInt = 9 ∨ w.toInt = 10 ∨ w.toInt = 11 ∨ w.toInt = 12 ∨ w.toInt = 13 ∨ w.toInt = 14 ∨ w.toInt = 15 ∨ w.toInt = 16 ∨ w.toInt = 17 ∨ w.toInt = 18 ∨ w.toInt = 19 ∨ w.toInt = 20 ∨ w.toInt = 21 ∨ w.toInt = 22 ∨ w.toInt = 23 ∨ w.toInt = 24 ∨ w.toInt = 25 ∨ w.toInt = 26 ∨ w.toInt = 27 ∨ w.toInt = 28 by omega) with hc | hc | hc | hc | hc | hc | hc | hc | hc | hc | hc | hc | hc | hc | hc | hc | hc | hc | hc | hc | hc | hc | hc | hc | hc | hc | hc | hc | hc
    · refine j_tabIn B 168 dL_law_39 (by omega) (by omega) (off := 129) (by rw [hc] <;> rfl) (by decide) ?_
      exact law_bring hl B hX hbl hbA g1 g2 g3 hI hR hcl kk
    · refine j_tabIn B 248 dL_law_39 (by omega) (by omega) (off := 209) (by rw [hc] <;> rfl) (by decide) ?_
      exact law_offer hl B hX hbl hbA g1 g2 g3 hI hR hcl kk
    · refine j_tabIn B 316 dL_law_39 (by omega) (by omega) (off := 277) (by rw [hc] <;> rfl) (by decide) ?_
      exact law_answer hl B hX hbl hbA g1 g2 g3 hI hR hcl kk
    · refine j_tabIn B 400 dL_law_39 (by omega) (by omega) (off := 361) (by rw [hc] <;> rfl) (by decide) ?_
      exact law_pack hl B hX hbl hbA g1 g2 g3 hI hR hcl kk
    · refine j_tabIn B 468 dL_law_39 (by omega) (by omega) (off := 429) (by rw [hc] <;> rfl) (by decide) ?_
      exact law_unpack hl B hX hbl hbA g1 g2 g3 hI hR hcl kk
    · refine j_tabIn B 524 dL_law_39 (by omega) (by omega) (off := 485) (by rw [hc] <;> rfl) (by decide) ?_
      exact law_seal hl B hX hbl hbA g1 g2 g3 hI hR hcl kk
    · refine j_tabIn B 580 dL_law_39 (by omega) (by omega) (off := 541) (by rw [hc] <;> rfl) (by decide) ?_
      exact law_open hl B hX hbl hbA g1 g2 g3 hI hR hcl kk
    · refine j_tabIn B 648 dL_law_39 (by omega) (by omega) (off := 609) (by rw [hc] <;> rfl) (by decide) ?_
      exact law_carry hl B hX hbl hbA g1 g2 g3 hI hR hcl kk
    · refine j_tabIn B 716 dL_law_39 (by omega) (by omega) (off := 677) (by rw [hc] <;> rfl) (by decide) ?_
      exact law_wipe hl B hX hbl hbA g1 g2 g3 hI hR hcl kk
    · refine j_tabIn B 796 dL_law_39 (by omega) (by omega) (off := 757) (by rw [hc] <;> rfl) (by decide) ?_
      exact law_smash hl B hX hbl hbA g1 g2 g3 hI hR hcl kk
    · refine j_tabIn B 864 dL_law_39 (by omega) (by omega) (off := 825) (by rw [hc] <;> rfl) (by decide) ?_
      exact law_check hl B hX hbl hbA g1 g2 g3 hI hR hcl kk
    · refine j_tabIn B 960 dL_law_39 (by omega) (by omega) (off := 921) (by rw [hc] <;> rfl) (by decide) ?_
      exact law_lose hl B hX hbl hbA g1 g2 g3 hI hR hcl kk
    · refine j_tabIn B 1016 dL_law_39 (by omega) (by omega) (off := 977) (by rw [hc] <;> rfl) (by decide) ?_
      exact law_find hl B hX hbl hbA g1 g2 g3 hI hR hcl kk
    · refine j_tabIn B 1072 dL_law_39 (by omega) (by omega) (off := 1033) (by rw [hc] <;> rfl) (by decide) ?_
      exact law_certify hl B hX hbl hbA g1 g2 g3 hI hR hcl kk
    · refine j_tabIn B 1128 dL_law_39 (by omega) (by omega) (off := 1089) (by rw [hc] <;> rfl) (by decide) ?_
      exact law_disks hl B hX hbl hbA g1 g2 g3 hI hR hcl kk
    · refine j_tabIn B 1141 dL_law_39 (by omega) (by omega) (off := 1102) (by rw [hc] <;> rfl) (by decide) ?_
      exact law_keeperOf hl B hX hbl hbA g1 g2 g3 hI hR hcl kk
    · refine j_tabIn B 1197 dL_law_39 (by omega) (by omega) (off := 1158) (by rw [hc] <;> rfl) (by decide) ?_
      exact law_keeperByLog hl B hX hbl hbA g1 g2 g3 hI hR hcl kk
    · refine j_tabIn B 1253 dL_law_39 (by omega) (by omega) (off := 1214) (by rw [hc] <;> rfl) (by decide) ?_
      exact law_crateOf hl B hX hbl hbA g1 g2 g3 hI hR hcl kk
    · refine j_tabIn B 1309 dL_law_39 (by omega) (by omega) (off := 1270) (by rw [hc] <;> rfl) (by decide) ?_
      exact law_stateOf hl B hX hbl hbA g1 g2 g3 hI hR hcl kk
    · refine j_tabIn B 1365 dL_law_39 (by omega) (by omega) (off := 1326) (by rw [hc] <;> rfl) (by decide) ?_
      exact law_isDone hl B hX hbl hbA g1 g2 g3 hI hR hcl kk
    · refine j_tabIn B 1428 dL_law_39 (by omega) (by omega) (off := 1389) (by rw [hc] <;> rfl) (by decide) ?_
      exact law_offeredTo hl B hX hbl hbA g1 g2 g3 hI hR hcl kk
    · refine j_tabIn B 1484 dL_law_39 (by omega) (by omega) (off := 1445) (by rw [hc] <;> rfl) (by decide) ?_
      exact law_certificateOf hl B hX hbl hbA g1 g2 g3 hI hR hcl kk
    · refine j_tabIn B 1540 dL_law_39 (by omega) (by omega) (off := 1501) (by rw [hc] <;> rfl) (by decide) ?_
      exact law_crateKeeper hl B hX hbl hbA g1 g2 g3 hI hR hcl kk
    · refine j_tabIn B 1596 dL_law_39 (by omega) (by omega) (off := 1557) (by rw [hc] <;> rfl) (by decide) ?_
      exact law_sealOf hl B hX hbl hbA g1 g2 g3 hI hR hcl kk
    · refine j_tabIn B 1652 dL_law_39 (by omega) (by omega) (off := 1613) (by rw [hc] <;> rfl) (by decide) ?_
      exact law_has hl B hX hbl hbA g1 g2 g3 hI hR hcl kk
    · refine j_tabIn B 1708 dL_law_39 (by omega) (by omega) (off := 1669) (by rw [hc] <;> rfl) (by decide) ?_
      exact law_missing hl B hX hbl hbA g1 g2 g3 hI hR hcl kk
    · refine j_tabIn B 1721 dL_law_39 (by omega) (by omega) (off := 1682) (by rw [hc] <;> rfl) (by decide) ?_
      exact law_oddCounts hl B hX hbl hbA g1 g2 g3 hI hR hcl kk
    · refine j_tabIn B 1734 dL_law_39 (by omega) (by omega) (off := 1695) (by rw [hc] <;> rfl) (by decide) ?_
      exact law_logged hl B hX hbl hbA g1 g2 g3 hI hR hcl kk
    · refine j_tabIn B 1747 dL_law_39 (by omega) (by omega) (off := 1708) (by rw [hc] <;> rfl) (by decide) ?_
      exact law_certificates hl B hX hbl hbA g1 g2 g3 hI hR hcl kk
set_option maxHeartbeats 4000000 in
set_option maxRecDepth 100000 in
/-- the law's body -/
theorem law_body {p : Program} {l : Launch} {e : Env} {s : State} {m : MethodId} {below : List Frame} {meth : Method} {c : Code} {D : va_G} {cD cC cI cZ cL : ClassId} {b L0 : Nat} {xs : Nat → Int32} (hl : l.stackTraces = false) (B : pgB p m c s #[Value.ref b] meth RL cL_law 7 D (pgTys cD cC cI cZ cL) (fun q : Nat => s.heap.size ≤ q)) (hr : meth.sig.returnType = ret) (hX : va_X b L0 xs s s.heap) (hbl : b < s.heap.size) (hbA : ¬ (fun q : Nat => s.heap.size ≤ q) b) (hL : L0 ≤ 2048) : pgJ p l e room_1 s m #[Value.ref b] below meth c 7 (fun q : Nat => s.heap.size ≤ q) (fun _ => True) 0 0 (lw_Z below #[Value.ref b] s) 0 (lv_args 0 [.ref b]) [] := by
  refine j_new B (ci := 2) (fs := [.null, .null, .int 0, .int 0, .int 0, .int 0, .int 0]) pgX2 tyX2 tyX2_ok q_12 q_13 q_1 rfl (fun j hj => by rcases (show j = 0 ∨ j = 1 ∨ j = 2 ∨ j = 3 ∨ j = 4 ∨ j = 5 ∨ j = 6 by omega) with rfl | rfl | rfl | rfl | rfl | rfl | rfl <;> rfl) (Nat.le_of_ble_eq_true rfl) (Nat.le_of_ble_eq_true rfl) dL_law_0 (fun qx hAx => ?_)
  refine j_dup B dL_law_3 rfl ?_
  refine j_cIv B (S := Nat → Nat) (b := qx) 0 [] (WdC' := fun u => pgR D cD cC (fun q : Nat => s.heap.size ≤ q) pgS0 0 u) (fun u => pgR D cD cC (fun q : Nat => s.heap.size ≤ q) pgS0 0 u) (c_X2_init l D cD cC cI cZ cL (fun q : Nat => s.heap.size ≤ q) qx hAx) q_14 q_15 q_1 q_16 rfl hdX2_init rfl ⟨Nat.le_of_ble_eq_true rfl, Nat.le_of_ble_eq_true rfl⟩ (Nat.le_of_ble_eq_true rfl) dL_law_4 rfl ⟨Nat.le_of_ble_eq_true rfl, Nat.le_of_ble_eq_true rfl⟩ (fun _ h => h) (fun _ _ _ _ h => h) (fun H h => by
    obtain ⟨H0, -, -, -, -, hx⟩ := h
    exact hx) (fun H H1 u h h1 _ _ => h1) (fun u hu => ?_)
  subst hu
  refine j_astore_n B (L' := [(1, .ref (u 0)), (0, .ref b)]) dL_law_7 rfl (by decide) rfl ?_
  refine j_new B (ci := 3) (fs := [.int 0, .null, .null, .null, .null, .null, .null, .null, .null, .null, .null, .null, .null, .null, .int 0, .int 0, .int 0, .int 0, .int 0]) pgX3 tyX3 tyX3_ok q_499 q_500 q_3 rfl (fun j hj => by rcases (show j = 0 ∨ j = 1 ∨ j = 2 ∨ j = 3 ∨ j = 4 ∨ j = 5 ∨ j = 6 ∨ j = 7 ∨ j = 8 ∨ j = 9 ∨ j = 10 ∨ j = 11 ∨ j = 12 ∨ j = 13 ∨ j = 14 ∨ j = 15 ∨ j = 16 ∨ j = 17 ∨ j = 18 by omega) with rfl | rfl | rfl | rfl | rfl | rfl | rfl | rfl | rfl | rfl | rfl | rfl | rfl | rfl | rfl | rfl | rfl | rfl | rfl <;> rfl) (Nat.le_of_ble_eq_true rfl) (Nat.le_of_ble_eq_true rfl) dL_law_8 (fun qm hAm => ?_)
  refine j_world (Wd' := fun H => pgR D cD cC (fun q : Nat => s.heap.size ≤ q) pgS0 0 u H ∧ va_at D vwCl (qm, .inr (3, [.int 0, .null, .null, .null, .null, .null, .null, .null, .null, .null, .null, .null, .null, .null, .int 0, .int 0, .int 0, .int 0, .int 0])) H ∧ ∀ k, k < 13 + 0 → u k ≠ qm) (fun H h => by
    obtain ⟨H0, h0, e0, -, ho, hx⟩ := h
    exact ⟨h0.kept (fun k hk => ho _ (by rw [← e0]; exact h0.lt hk)), hx, fun k hk e9 => by have := h0.lt hk; omega⟩) ?_
  refine j_fact (P := ∀ k, k < 13 + 0 → u k ≠ qm) (fun H h => h.2.2) (fun hne => ?_)
  refine j_dup B dL_law_11 rfl ?_
  refine j_cIv B (S := Nat → Nat) (b := qm) 0 [] (WdC' := fun v => pgM D cI cZ (fun z => s.heap.size ≤ z ∧ ∀ k, k < 13 + 0 → z ≠ u k) pgS0 (fun _ => 0) 0 v) (fun v => fun H => pgR D cD cC (fun q : Nat => s.heap.size ≤ q) pgS0 0 u H ∧ pgM D cI cZ (fun z => s.heap.size ≤ z ∧ ∀ k, k < 13 + 0 → z ≠ u k) pgS0 (fun _ => 0) 0 v H) (c_X3_init l D cD cC cI cZ cL (fun z => s.heap.size ≤ z ∧ ∀ k, k < 13 + 0 → z ≠ u k) qm ⟨hAm, fun k hk => (hne k hk).symm⟩) q_501 q_502 q_3 q_503 rfl hdX3_init rfl ⟨Nat.le_of_ble_eq_true rfl, Nat.le_of_ble_eq_true rfl⟩ (Nat.le_of_ble_eq_true rfl) dL_law_12 rfl ⟨Nat.le_of_ble_eq_true rfl, Nat.le_of_ble_eq_true rfl⟩ (fun _ h => h.1) (fun H h z hz hA => ⟨hA, fun k hk e9 => by have := h.1.lt hk; omega⟩) (fun H h => h.2.1) (fun H H1 v h h1 hz hk => ⟨h.1.kept (fun k hk9 => hk _ (h.1.lt hk9) (fun z => z.2 k hk9 rfl)), h1⟩) (fun v hv => ?_)
  subst hv
  refine j_astore_n B (L' := [(2, .ref (v 0)), (1, .ref (u 0)), (0, .ref b)]) dL_law_15 rfl (by decide) rfl ?_
  refine j_iconst B (v := 1) dL_law_16 (by decide) ?_
  refine j_newa B (atype := .long) (N := 1) (a0 := (1, .inr (.inl (fun _ => 0)))) (ty := .long) rfl q_722 4 rfl (fun h => h) (fun cA => rfl) (by decide) (by decide) (Nat.le_of_ble_eq_true rfl) (Nat.le_of_ble_eq_true rfl) (Nat.le_of_ble_eq_true rfl) dL_law_17 (fun qo hAo => ?_)
  refine j_world (Wd' := pgWL D cD cC cI cZ cL (fun q : Nat => s.heap.size ≤ q) pgS0 0 u qo (fun _ => 0) pgS0 (fun _ => 0) 0 v) (fun H h => by
    obtain ⟨H0, ⟨h1, h2⟩, e0, -, ho, hx⟩ := h
    have l1 : ∀ k, k < 13 + 0 → u k < qo := fun k hk => by rw [← e0]; exact h1.lt hk
    have l2 : ∀ k, k < 14 → v k < qo := fun k hk => by rw [← e0]; exact h2.lt hk
    refine ⟨⟨⟨fun k hk => (h1.1 k hk).kept (ho _ (l1 k hk)), h1.2.1, fun k hk => ⟨⟨h1.2.2 k hk, fun k2 hk2 e9 => (h2.2.2 k2 hk2).2 k hk e9.symm⟩, fun e9 => by have := l1 k hk; omega⟩⟩, hx, hAo, fun k hk e9 => by have := l2 k hk; omega⟩, fun k hk => (h2.1 k hk).kept (ho _ (l2 k hk)), h2.2.1, fun k hk => ⟨(h2.2.2 k hk).1, fun e9 => by have := l2 k hk; omega, (h2.2.2 k hk).2⟩⟩) ?_
  refine j_astore_n B (L' := [(3, .ref qo), (2, .ref (v 0)), (1, .ref (u 0)), (0, .ref b)]) dL_law_19 rfl (by decide) rfl ?_
  refine j_iconst B (v := nI (4 * 0)) dL_law_20 (by decide) ?_
  refine j_istore B (L' := [(4, .int (nI (4 * 0))), (3, .ref qo), (2, .ref (v 0)), (1, .ref (u 0)), (0, .ref b)]) dL_law_21 (by decide) rfl ?_
  exact law_loop hl B hr hX hbl hbA hL (L0 + 1) 0 (by omega) (by omega) pgS0 0 u (fun _ => 0) (fun _ => 0) 0 pgI_s0 pgRho_s0 rfl
