theorem pgCr_U {n j : Nat} {σ : pgSt} {v : Int32} (h : pgCr n σ) (hv : v = -1 ∨ ∃ c, c < 10 ∧ v = nI c) : pgCr n (pgU σ 3 j v) := by
  intro i hi
  by_cases e : i = j
  · subst e
    rw [pgU_self]
    exact hv
  · rw [pgU_nj e]
    exact h i hi
theorem pgU_same {σ : pgSt} {t i : Nat} {v : Int32} (h : σ t i = v) : pgU σ t i v = σ := by
  funext a j
  unfold pgU
  split
  · next q => rw [q.1, q.2, h]
  · rfl
theorem pgCr_ne {n t j : Nat} {σ : pgSt} {v : Int32} (ht : 3 ≠ t) (h : pgCr n σ) : pgCr n (pgU σ t j v) := by
  intro i hi
  rw [pgU_ne ht]
  exact h i hi
set_option maxHeartbeats 4000000 in
set_option maxRecDepth 100000 in
/-- offer -/
theorem c_X2_offer (l : Launch) (hl : l.stackTraces = false) (D : va_G) (cD cC cI cZ cL : ClassId) (A : Nat → Prop) (σ : pgSt) (n : Nat) (ad : Nat → Nat) (hI : pgI n σ) (d : Int32) (to : Int32) : vx_Met l yX2_offer (.code yX2_offer cX2_offer 4 (some .int) :: pgWd) ({ frames := 7, cells := 3, slots := 18, locals := 104 } : Room) (pgPc D (pgTys cD cC cI cZ cL) A (pgR D cD cC A σ n ad) [.ref (ad 0), .int d, .int to]) (va_Qi (fun (r : Int32) (_ : Unit) => (sp_offer σ d to).1 = 0 ∧ r = (sp_offer σ d to).2.1) (fun _ t9 => pgR D cD cC A ((sp_offer σ d to).2.2) n ad t9.heap) A) (pgX A (fun k => (sp_offer σ d to).1 = k ∧ k ≠ 0) (pgR D cD cC A σ n ad)) 3 18 A := by
  refine pg_enterX (own := RX2) (by decide) rfl (Nat.le_of_ble_eq_true rfl) (fun p e s m below meth cc9 B hr hnm ht => ?_)
  refine j_fact (fun H h => pgR.inA h) (fun hIn => ?_)
  refine j_aload_n B dX2_offer_0 0 rfl rfl ?_
  refine j_iload_n B dX2_offer_1 1 rfl rfl ?_
  refine j_xVr B 1 [.int d] ht (WdC' := pgR D cD cC A σ n ad)  (c_X2_findDisk l hl D cD cC cI cZ cL A σ n ad hI d) rfl (fun H h => pgR.x h) q_245 q_247 q_p2 q_1 q_248 hdX2_findDisk rfl ⟨Nat.le_of_ble_eq_true rfl, Nat.le_of_ble_eq_true rfl⟩ (Nat.le_of_ble_eq_true rfl) dX2_offer_2 rfl ⟨Nat.le_of_ble_eq_true rfl, Nat.le_of_ble_eq_true rfl⟩ (Nat.le_of_ble_eq_true rfl) (Nat.le_of_ble_eq_true rfl) (fun k h => by obtain ⟨rfl, h9⟩ := h; simp only [sp_offer]; grind) (fun H h => h) (fun r1 hp2 => ?_)
  obtain ⟨rfl, hD3⟩ := hp2
  have hj4 := (pgIsD.at hI hD3).1
  refine j_astore_n B (L' := [(3, .ref (ad (13 + ix d))), (0, .ref (ad 0)), (1, .int d), (2, .int to)]) dX2_offer_5 rfl (by decide) rfl ?_
  refine j_iload_n B dX2_offer_6 3 rfl rfl ?_
  refine j_xSv B 1 [.int to] ht (S := Unit) (WdC' := fun _ => pgR D cD cC A σ n ad)  (c_X2_requireKeeper l hl D cD cC cI cZ cL A σ n ad to) q_83 q_84 q_1 q_85 hdX2_requireKeeper rfl ⟨Nat.le_of_ble_eq_true rfl, Nat.le_of_ble_eq_true rfl⟩ (Nat.le_of_ble_eq_true rfl) dX2_offer_7 rfl ⟨Nat.le_of_ble_eq_true rfl, Nat.le_of_ble_eq_true rfl⟩ (Nat.le_of_ble_eq_true rfl) (Nat.le_of_ble_eq_true rfl) (fun k h => by obtain ⟨rfl, h9⟩ := h; simp only [sp_offer]; grind) (fun H h => h) (fun u5 hp6 => ?_)
  refine j_iload_n B dX2_offer_10 3 rfl rfl ?_
  refine j_aload_n B dX2_offer_11 0 rfl rfl ?_
  refine j_get B (v := .int (σ 2 (ix d))) pgX1 rfl (fun H h => pgR.dk h hj4) 2 (by decide) q_198 rfl rfl dX2_offer_12 ?_
  refine j_icmp_ne B 28 dX2_offer_15 (by decide) (fun h7 => ?_) (fun h7 => ?_)
  · refine j_aload_n B dX2_offer_28 0 rfl rfl ?_
    refine j_xSv B 1 [.ref (ad (13 + ix d))] ht (S := Unit) (WdC' := fun _ => pgR D cD cC A σ n ad)  (c_X2_requireLoose l hl D cD cC cI cZ cL A σ n ad (ix d) hj4 hI.2.2.1) q_316 q_317 q_1 q_318 hdX2_requireLoose rfl ⟨Nat.le_of_ble_eq_true rfl, Nat.le_of_ble_eq_true rfl⟩ (Nat.le_of_ble_eq_true rfl) dX2_offer_29 rfl ⟨Nat.le_of_ble_eq_true rfl, Nat.le_of_ble_eq_true rfl⟩ (Nat.le_of_ble_eq_true rfl) (Nat.le_of_ble_eq_true rfl) (fun k h => by obtain ⟨rfl, h9⟩ := h; simp only [sp_offer]; grind) (fun H h => h) (fun u8 hp9 => ?_)
    refine j_aload_n B dX2_offer_32 0 rfl rfl ?_
    refine j_iload_n B dX2_offer_33 3 rfl rfl ?_
    refine j_put B (Wd' := pgR D cD cC A (pgU σ 6 (ix d) to) n ad) pgX1 tyX1 tyX1_ok nmX1 rfl (fun H h => pgR.dk h hj4) 5 (by decide) q_203 rfl rfl rfl rfl rfl (Nat.le_of_ble_eq_true rfl) dX2_offer_34 (hIn (13 + ix d) (by omega)) (fun H H1 h hc hz ho => pgR.putD h hj4 (by decide) pgDs5 hc ho) ?_
    refine j_aload_n B dX2_offer_37 0 rfl rfl ?_
    refine j_get B (v := .int (σ 2 (ix d))) pgX1 rfl (fun H h => pgR.dk h hj4) 2 (by decide) q_198 rfl rfl dX2_offer_38 ?_
    have e9 : sp_offer σ d to = (0, σ 2 (ix d), pgU σ 6 (ix d) to) := by
      simp only [sp_offer]; grind
    exact j_x (j_iret B hr rfl dX2_offer_41 (Nat.le_of_ble_eq_true rfl) (Nat.le_of_ble_eq_true rfl) () ⟨by rw [e9], by rw [e9]⟩ (fun H h => pgR.eq h (by rw [e9])))
  · exact j_throw (k := 2) pgTA pgTA2 pgTA3 rfl q_157 q_7 rfl B hl ht (is := 57) (text := "the disk is offered to its keeper") (by decide) dX2_offer_18 dX2_offer_21 dX2_offer_22 dX2_offer_24 dX2_offer_27 (Nat.le_of_ble_eq_true rfl) (Nat.le_of_ble_eq_true rfl) (Nat.le_of_ble_eq_true rfl) (Nat.le_of_ble_eq_true rfl) (Nat.le_of_ble_eq_true rfl) (Nat.le_of_ble_eq_true rfl) (by simp only [sp_offer]; grind) (fun H H1 h hq => pgR.more h hq)
set_option maxHeartbeats 4000000 in
set_option maxRecDepth 100000 in
/-- answer -/
theorem c_X2_answer (l : Launch) (hl : l.stackTraces = false) (D : va_G) (cD cC cI cZ cL : ClassId) (A : Nat → Prop) (σ : pgSt) (n : Nat) (ad : Nat → Nat) (hI : pgI n σ) (d : Int32) (t : Int32) : vx_Met l yX2_answer (.code yX2_answer cX2_answer 5 (some .int) :: pgWd) ({ frames := 7, cells := 2, slots := 12, locals := 104 } : Room) (pgPc D (pgTys cD cC cI cZ cL) A (pgR D cD cC A σ n ad) [.ref (ad 0), .int d, .int t]) (va_Qi (fun (r : Int32) (_ : Unit) => (sp_answer σ d t).1 = 0 ∧ r = (sp_answer σ d t).2.1) (fun _ t9 => pgR D cD cC A ((sp_answer σ d t).2.2) n ad t9.heap) A) (pgX A (fun k => (sp_answer σ d t).1 = k ∧ k ≠ 0) (pgR D cD cC A σ n ad)) 2 12 A := by
  refine pg_enterX (own := RX2) (by decide) rfl (Nat.le_of_ble_eq_true rfl) (fun p e s m below meth cc9 B hr hnm ht => ?_)
  refine j_fact (fun H h => pgR.inA h) (fun hIn => ?_)
  refine j_aload_n B dX2_answer_0 0 rfl rfl ?_
  refine j_iload_n B dX2_answer_1 1 rfl rfl ?_
  refine j_xVr B 1 [.int d] ht (WdC' := pgR D cD cC A σ n ad)  (c_X2_findDisk l hl D cD cC cI cZ cL A σ n ad hI d) rfl (fun H h => pgR.x h) q_245 q_247 q_p2 q_1 q_248 hdX2_findDisk rfl ⟨Nat.le_of_ble_eq_true rfl, Nat.le_of_ble_eq_true rfl⟩ (Nat.le_of_ble_eq_true rfl) dX2_answer_2 rfl ⟨Nat.le_of_ble_eq_true rfl, Nat.le_of_ble_eq_true rfl⟩ (Nat.le_of_ble_eq_true rfl) (Nat.le_of_ble_eq_true rfl) (fun k h => by obtain ⟨rfl, h9⟩ := h; simp only [sp_answer]; grind) (fun H h => h) (fun r1 hp2 => ?_)
  obtain ⟨rfl, hD3⟩ := hp2
  have hj4 := (pgIsD.at hI hD3).1
  refine j_astore_n B (L' := [(3, .ref (ad (13 + ix d))), (0, .ref (ad 0)), (1, .int d), (2, .int t)]) dX2_answer_5 rfl (by decide) rfl ?_
  refine j_aload_n B dX2_answer_6 0 rfl rfl ?_
  refine j_get B (v := .int (σ 5 (ix d))) pgX1 rfl (fun H h => pgR.dk h hj4) 9 (by decide) q_210 rfl rfl dX2_answer_7 ?_
  refine j_if_ne B 21 dX2_answer_10 (by decide) (fun h5 => ?_) (fun h5 => ?_)
  · exact j_throw (k := 3) pgTS pgTS2 pgTS3 rfl q_173 q_8 rfl B hl ht (is := 70) (text := "the disk is missing or not offered") (by decide) dX2_answer_21 dX2_answer_24 dX2_answer_25 dX2_answer_27 dX2_answer_30 (Nat.le_of_ble_eq_true rfl) (Nat.le_of_ble_eq_true rfl) (Nat.le_of_ble_eq_true rfl) (Nat.le_of_ble_eq_true rfl) (Nat.le_of_ble_eq_true rfl) (Nat.le_of_ble_eq_true rfl) (by simp only [sp_answer]; grind) (fun H H1 h hq => pgR.more h hq)
  · refine j_aload_n B dX2_answer_13 0 rfl rfl ?_
    refine j_get B (v := .int (σ 6 (ix d))) pgX1 rfl (fun H h => pgR.dk h hj4) 5 (by decide) q_203 rfl rfl dX2_answer_14 ?_
    refine j_iconst B (v := (-1)) dX2_answer_17 (by decide) ?_
    refine j_icmp_ne B 31 dX2_answer_18 (by decide) (fun h6 => ?_) (fun h6 => ?_)
    · refine j_aload_n B dX2_answer_31 0 rfl rfl ?_
      refine j_get B (v := .int (σ 6 (ix d))) pgX1 rfl (fun H h => pgR.dk h hj4) 5 (by decide) q_203 rfl rfl dX2_answer_32 ?_
      refine j_istore B (L' := [(4, .int (σ 6 (ix d))), (3, .ref (ad (13 + ix d))), (0, .ref (ad 0)), (1, .int d), (2, .int t)]) dX2_answer_35 (by decide) rfl ?_
      refine j_aload_n B dX2_answer_37 1 rfl rfl ?_
      refine j_iconst B (v := (-1)) dX2_answer_38 (by decide) ?_
      refine j_put B (Wd' := pgR D cD cC A (pgU σ 6 (ix d) (-1)) n ad) pgX1 tyX1 tyX1_ok nmX1 rfl (fun H h => pgR.dk h hj4) 5 (by decide) q_203 rfl rfl rfl rfl rfl (Nat.le_of_ble_eq_true rfl) dX2_answer_39 (hIn (13 + ix d) (by omega)) (fun H H1 h hc hz ho => pgR.putD h hj4 (by decide) pgDs5 hc ho) ?_
      refine j_iload_n B dX2_answer_42 4 rfl rfl ?_
      refine j_if_eq B 53 dX2_answer_43 (by decide) (fun h7 => ?_) (fun h7 => ?_)
      · refine j_aload_n B dX2_answer_53 1 rfl rfl ?_
        refine j_get B (v := .int (σ 2 (ix d))) pgX1 rfl (fun H h => pgR.dk h hj4) 2 (by decide) q_198 rfl rfl dX2_answer_54 ?_
        have e9 : sp_answer σ d t = (0, σ 2 (ix d), pgU σ 6 (ix d) (-1)) := by
          simp only [sp_answer, pgHo, pgU_ne (show (13 : Nat) ≠ 6 by decide)]; grind
        exact j_x (j_iret B hr rfl dX2_answer_57 (Nat.le_of_ble_eq_true rfl) (Nat.le_of_ble_eq_true rfl) () ⟨by rw [e9], by rw [e9]⟩ (fun H h => pgR.eq h (by rw [e9])))
      · refine j_aload_n B dX2_answer_46 2 rfl rfl ?_
        refine j_aload_n B dX2_answer_47 1 rfl rfl ?_
        refine j_iload B dX2_answer_48 0 rfl ?_
        refine j_cVv B (S := Unit) 2 [.ref (ad (13 + ix d)), .int (σ 6 (ix d))] (WdC' := fun _ => pgR D cD cC A (pgU (pgU (pgU (pgU σ 6 (ix d) (-1)) 2 (ix d) (σ 6 (ix d))) 14 (ix d) (σ 6 (ix d))) 13 3 (σ 13 3 + 1)) n ad) (fun _ => pgR D cD cC A (pgU (pgU (pgU (pgU σ 6 (ix d) (-1)) 2 (ix d) (σ 6 (ix d))) 14 (ix d) (σ 6 (ix d))) 13 3 (σ 13 3 + 1)) n ad) (c_X2_handOver l D cD cC cI cZ cL A (pgU σ 6 (ix d) (-1)) n ad (ix d) hj4 (σ 6 (ix d))) rfl (fun H h => pgR.x h) q_237 q_239 q_p1 q_1 q_240 hdX2_handOver rfl ⟨Nat.le_of_ble_eq_true rfl, Nat.le_of_ble_eq_true rfl⟩ (Nat.le_of_ble_eq_true rfl) dX2_answer_50 rfl ⟨Nat.le_of_ble_eq_true rfl, Nat.le_of_ble_eq_true rfl⟩ (fun _ h => h) (fun _ _ _ _ h => h) (fun _ h => h) (fun _ _ _ _ h _ _ => h) (fun _ _ => ?_)
        refine j_aload_n B dX2_answer_53 1 rfl rfl ?_
        refine j_get B (v := .int (σ 6 (ix d))) pgX1 rfl (fun H h => pgR.dk h hj4) 2 (by decide) q_198 rfl (by simp [pgU]) dX2_answer_54 ?_
        have e9 : sp_answer σ d t = (0, σ 6 (ix d), pgU (pgU (pgU (pgU σ 6 (ix d) (-1)) 2 (ix d) (σ 6 (ix d))) 14 (ix d) (σ 6 (ix d))) 13 3 (σ 13 3 + 1)) := by
          simp only [sp_answer, pgHo, pgU_ne (show (13 : Nat) ≠ 6 by decide)]; grind
        exact j_x (j_iret B hr rfl dX2_answer_57 (Nat.le_of_ble_eq_true rfl) (Nat.le_of_ble_eq_true rfl) () ⟨by rw [e9], by rw [e9]⟩ (fun H h => pgR.eq h (by rw [e9])))
    · exact j_throw (k := 3) pgTS pgTS2 pgTS3 rfl q_173 q_8 rfl B hl ht (is := 70) (text := "the disk is missing or not offered") (by decide) dX2_answer_21 dX2_answer_24 dX2_answer_25 dX2_answer_27 dX2_answer_30 (Nat.le_of_ble_eq_true rfl) (Nat.le_of_ble_eq_true rfl) (Nat.le_of_ble_eq_true rfl) (Nat.le_of_ble_eq_true rfl) (Nat.le_of_ble_eq_true rfl) (Nat.le_of_ble_eq_true rfl) (by simp only [sp_answer]; grind) (fun H H1 h hq => pgR.more h hq)
set_option maxHeartbeats 4000000 in
set_option maxRecDepth 100000 in
/-- pack -/
theorem c_X2_pack (l : Launch) (hl : l.stackTraces = false) (D : va_G) (cD cC cI cZ cL : ClassId) (A : Nat → Prop) (σ : pgSt) (n : Nat) (ad : Nat → Nat) (hI : pgI n σ) (d : Int32) (c : Int32) : vx_Met l yX2_pack (.code yX2_pack cX2_pack 5 (some .int) :: pgWd) ({ frames := 7, cells := 4, slots := 24, locals := 104 } : Room) (pgPc D (pgTys cD cC cI cZ cL) A (pgR D cD cC A σ n ad) [.ref (ad 0), .int d, .int c]) (va_Qi (fun (r : Int32) (_ : Unit) => (sp_pack σ d c).1 = 0 ∧ r = (sp_pack σ d c).2.1) (fun _ t9 => pgR D cD cC A ((sp_pack σ d c).2.2) n ad t9.heap) A) (pgX A (fun k => (sp_pack σ d c).1 = k ∧ k ≠ 0) (pgR D cD cC A σ n ad)) 4 24 A := by
  refine pg_enterX (own := RX2) (by decide) rfl (Nat.le_of_ble_eq_true rfl) (fun p e s m below meth cc9 B hr hnm ht => ?_)
  refine j_fact (fun H h => pgR.inA h) (fun hIn => ?_)
  refine j_aload_n B dX2_pack_0 0 rfl rfl ?_
  refine j_iload_n B dX2_pack_1 1 rfl rfl ?_
  refine j_xVr B 1 [.int d] ht (WdC' := pgR D cD cC A σ n ad)  (c_X2_findDisk l hl D cD cC cI cZ cL A σ n ad hI d) rfl (fun H h => pgR.x h) q_245 q_247 q_p2 q_1 q_248 hdX2_findDisk rfl ⟨Nat.le_of_ble_eq_true rfl, Nat.le_of_ble_eq_true rfl⟩ (Nat.le_of_ble_eq_true rfl) dX2_pack_2 rfl ⟨Nat.le_of_ble_eq_true rfl, Nat.le_of_ble_eq_true rfl⟩ (Nat.le_of_ble_eq_true rfl) (Nat.le_of_ble_eq_true rfl) (fun k h => by obtain ⟨rfl, h9⟩ := h; simp only [sp_pack]; grind) (fun H h => h) (fun r1 hp2 => ?_)
  obtain ⟨rfl, hD3⟩ := hp2
  have hj4 := (pgIsD.at hI hD3).1
  refine j_astore_n B (L' := [(3, .ref (ad (13 + ix d))), (0, .ref (ad 0)), (1, .int d), (2, .int c)]) dX2_pack_5 rfl (by decide) rfl ?_
  refine j_aload_n B dX2_pack_6 1 rfl rfl ?_
  refine j_iload_n B dX2_pack_7 3 rfl rfl ?_
  refine j_xVr B 1 [.int c] ht (WdC' := pgR D cD cC A σ n ad)  (c_X2_findCrate l hl D cD cC cI cZ cL A σ n ad c) rfl (fun H h => pgR.x h) q_300 q_302 q_p3 q_1 q_303 hdX2_findCrate rfl ⟨Nat.le_of_ble_eq_true rfl, Nat.le_of_ble_eq_true rfl⟩ (Nat.le_of_ble_eq_true rfl) dX2_pack_8 rfl ⟨Nat.le_of_ble_eq_true rfl, Nat.le_of_ble_eq_true rfl⟩ (Nat.le_of_ble_eq_true rfl) (Nat.le_of_ble_eq_true rfl) (fun k h => by obtain ⟨rfl, h9⟩ := h; simp only [sp_pack]; grind) (fun H h => h) (fun r5 hp6 => ?_)
  obtain ⟨rfl, hD7⟩ := hp6
  have hj8 := (pgIsC.at hD7).1
  refine j_astore B (L' := [(4, .ref (ad (3 + ix c))), (3, .ref (ad (13 + ix d))), (0, .ref (ad 0)), (1, .int d), (2, .int c)]) dX2_pack_11 (by decide) rfl ?_
  refine j_aload_n B dX2_pack_13 1 rfl rfl ?_
  refine j_xSv B 1 [.ref (ad (13 + ix d))] ht (S := Unit) (WdC' := fun _ => pgR D cD cC A σ n ad)  (c_X2_requireLoose l hl D cD cC cI cZ cL A σ n ad (ix d) hj4 hI.2.2.1) q_316 q_317 q_1 q_318 hdX2_requireLoose rfl ⟨Nat.le_of_ble_eq_true rfl, Nat.le_of_ble_eq_true rfl⟩ (Nat.le_of_ble_eq_true rfl) dX2_pack_14 rfl ⟨Nat.le_of_ble_eq_true rfl, Nat.le_of_ble_eq_true rfl⟩ (Nat.le_of_ble_eq_true rfl) (Nat.le_of_ble_eq_true rfl) (fun k h => by obtain ⟨rfl, h9⟩ := h; simp only [sp_pack]; grind) (fun H h => h) (fun u9 hp10 => ?_)
  refine j_aload B dX2_pack_17 0 rfl ?_
  refine j_cVi B (S := Unit) 0 [] (WdC' := fun _ => pgR D cD cC A σ n ad) (fun _ => pgR D cD cC A σ n ad) (c_X0_isSealed l D cD cC cI cZ cL A σ n ad (ix c) hj8) rfl (fun H h => pgR.cr h hj8) q_329 q_330 q_331 q_2 q_332 hdX0_isSealed rfl ⟨Nat.le_of_ble_eq_true rfl, Nat.le_of_ble_eq_true rfl⟩ (Nat.le_of_ble_eq_true rfl) dX2_pack_19 rfl ⟨Nat.le_of_ble_eq_true rfl, Nat.le_of_ble_eq_true rfl⟩ (fun _ h => h) (fun _ _ _ _ h => h) (fun _ h => h) (fun _ _ _ _ h _ _ => h) (fun r11 _ hp12 => ?_)
  by_cases h13 : ¬ σ 11 (ix c) = -1
  · obtain rfl : r11 = 1 := by rw [hp12]; exact if_pos h13
    refine j_if_ne B 37 dX2_pack_22 (by decide) (fun h14 => ?_) (fun h14 => (absurd h14 (by decide)))
    exact j_throw (k := 3) pgTS pgTS2 pgTS3 rfl q_173 q_8 rfl B hl ht (is := 81) (text := "the crate is sealed or with another keeper") (by decide) dX2_pack_37 dX2_pack_40 dX2_pack_41 dX2_pack_43 dX2_pack_46 (Nat.le_of_ble_eq_true rfl) (Nat.le_of_ble_eq_true rfl) (Nat.le_of_ble_eq_true rfl) (Nat.le_of_ble_eq_true rfl) (Nat.le_of_ble_eq_true rfl) (Nat.le_of_ble_eq_true rfl) (by simp only [sp_pack]; grind) (fun H H1 h hq => pgR.more h hq)
  · obtain rfl : r11 = 0 := by rw [hp12]; exact if_neg h13
    refine j_if_ne B 37 dX2_pack_22 (by decide) (fun h15 => (absurd (by decide) h15)) (fun h15 => ?_)
    refine j_aload B dX2_pack_25 0 rfl ?_
    refine j_get B (v := .int (σ 10 (ix c))) pgX0 rfl (fun H h => pgR.cr h hj8) 1 (by decide) q_34 rfl rfl dX2_pack_27 ?_
    refine j_aload_n B dX2_pack_30 1 rfl rfl ?_
    refine j_get B (v := .int (σ 2 (ix d))) pgX1 rfl (fun H h => pgR.dk h hj4) 2 (by decide) q_198 rfl rfl dX2_pack_31 ?_
    refine j_icmp_eq B 47 dX2_pack_34 (by decide) (fun h16 => ?_) (fun h16 => ?_)
    · refine j_aload_n B dX2_pack_47 1 rfl rfl ?_
      refine j_aload B dX2_pack_48 0 rfl ?_
      refine j_put B (Wd' := pgR D cD cC A (pgU σ 3 (ix d) c) n ad) pgX1 tyX1 tyX1_ok nmX1 rfl (fun H h => pgR.dk h hj4) 4 (by decide) q_201 rfl rfl rfl rfl rfl (Nat.le_of_ble_eq_true rfl) dX2_pack_50 (hIn (13 + ix d) (by omega)) (fun H H1 h hc hz ho => pgR.putD h hj4 (by decide) (pgDs4r hj8 (pgIsC.at hD7).2) hc ho) ?_
      refine j_aload_n B dX2_pack_53 2 rfl rfl ?_
      refine j_aload B dX2_pack_54 0 rfl ?_
      refine j_cVi B (S := Unit) 1 [.ref (ad (3 + ix c))] (WdC' := fun _ => pgR D cD cC A (pgU σ 3 (ix d) c) n ad) (fun _ => pgR D cD cC A (pgU σ 3 (ix d) c) n ad) (c_X2_countDisksIn l D cD cC cI cZ cL A (pgU σ 3 (ix d) c) n ad (ix c) hj8 hI.1 (pgCr_U hI.2.2.1 (Or.inr ⟨ix c, (pgIsC.at (by assumption)).1, (pgIsC.at (by assumption)).2⟩))) rfl (fun H h => pgR.x h) q_334 q_336 q_p4 q_1 q_337 hdX2_countDisksIn rfl ⟨Nat.le_of_ble_eq_true rfl, Nat.le_of_ble_eq_true rfl⟩ (Nat.le_of_ble_eq_true rfl) dX2_pack_56 rfl ⟨Nat.le_of_ble_eq_true rfl, Nat.le_of_ble_eq_true rfl⟩ (fun _ h => h) (fun _ _ _ _ h => h) (fun _ h => h) (fun _ _ _ _ h _ _ => h) (fun r17 _ hp18 => ?_)
      obtain rfl : r17 = pgCnt (pgU σ 3 (ix d) c) n (nI (ix c)) := hp18
      have hn7 : ix (σ 13 0) = n := pgI_n hI
      have hc7 : nI (ix c) = c := (pgIsC.at (by assumption)).2.symm
      have e9 : sp_pack σ d c = (0, pgCnt (pgU σ 3 (ix d) c) n (nI (ix c)), pgU σ 3 (ix d) c) := by
        simp only [sp_pack, hn7, hc7]; grind
      exact j_x (j_iret B hr rfl dX2_pack_59 (Nat.le_of_ble_eq_true rfl) (Nat.le_of_ble_eq_true rfl) () ⟨by rw [e9], by rw [e9]⟩ (fun H h => pgR.eq h (by rw [e9])))
    · exact j_throw (k := 3) pgTS pgTS2 pgTS3 rfl q_173 q_8 rfl B hl ht (is := 81) (text := "the crate is sealed or with another keeper") (by decide) dX2_pack_37 dX2_pack_40 dX2_pack_41 dX2_pack_43 dX2_pack_46 (Nat.le_of_ble_eq_true rfl) (Nat.le_of_ble_eq_true rfl) (Nat.le_of_ble_eq_true rfl) (Nat.le_of_ble_eq_true rfl) (Nat.le_of_ble_eq_true rfl) (Nat.le_of_ble_eq_true rfl) (by simp only [sp_pack]; grind) (fun H H1 h hq => pgR.more h hq)
set_option maxHeartbeats 4000000 in
set_option maxRecDepth 100000 in
/-- unpack -/
theorem c_X2_unpack (l : Launch) (hl : l.stackTraces = false) (D : va_G) (cD cC cI cZ cL : ClassId) (A : Nat → Prop) (σ : pgSt) (n : Nat) (ad : Nat → Nat) (hI : pgI n σ) (d : Int32) : vx_Met l yX2_unpack (.code yX2_unpack cX2_unpack 4 (some .int) :: pgWd) ({ frames := 7, cells := 2, slots := 12, locals := 104 } : Room) (pgPc D (pgTys cD cC cI cZ cL) A (pgR D cD cC A σ n ad) [.ref (ad 0), .int d]) (va_Qi (fun (r : Int32) (_ : Unit) => (sp_unpack σ d).1 = 0 ∧ r = (sp_unpack σ d).2.1) (fun _ t9 => pgR D cD cC A ((sp_unpack σ d).2.2) n ad t9.heap) A) (pgX A (fun k => (sp_unpack σ d).1 = k ∧ k ≠ 0) (pgR D cD cC A σ n ad)) 2 12 A := by
  refine pg_enterX (own := RX2) (by decide) rfl (Nat.le_of_ble_eq_true rfl) (fun p e s m below meth cc9 B hr hnm ht => ?_)
  refine j_fact (fun H h => pgR.inA h) (fun hIn => ?_)
  refine j_aload_n B dX2_unpack_0 0 rfl rfl ?_
  refine j_iload_n B dX2_unpack_1 1 rfl rfl ?_
  refine j_xVr B 1 [.int d] ht (WdC' := pgR D cD cC A σ n ad)  (c_X2_findDisk l hl D cD cC cI cZ cL A σ n ad hI d) rfl (fun H h => pgR.x h) q_245 q_247 q_p2 q_1 q_248 hdX2_findDisk rfl ⟨Nat.le_of_ble_eq_true rfl, Nat.le_of_ble_eq_true rfl⟩ (Nat.le_of_ble_eq_true rfl) dX2_unpack_2 rfl ⟨Nat.le_of_ble_eq_true rfl, Nat.le_of_ble_eq_true rfl⟩ (Nat.le_of_ble_eq_true rfl) (Nat.le_of_ble_eq_true rfl) (fun k h => by obtain ⟨rfl, h9⟩ := h; simp only [sp_unpack]; grind) (fun H h => h) (fun r1 hp2 => ?_)
  obtain ⟨rfl, hD3⟩ := hp2
  have hj4 := (pgIsD.at hI hD3).1
  refine j_astore_n B (L' := [(2, .ref (ad (13 + ix d))), (0, .ref (ad 0)), (1, .int d)]) dX2_unpack_5 rfl (by decide) rfl ?_
  refine j_aload_n B dX2_unpack_6 0 rfl rfl ?_
  rcases hI.2.2.1 (ix d) hj4 with e7 | ⟨c5, hc6, e7⟩
  · refine j_get B (v := .null) pgX1 rfl (fun H h => pgR.dk h hj4) 4 (by decide) q_201 rfl (congrArg some (pgCv_null e7)) dX2_unpack_7 ?_
    refine j_astore_nN B (L' := [(3, .null), (2, .ref (ad (13 + ix d))), (0, .ref (ad 0)), (1, .int d)]) dX2_unpack_10 rfl (by decide) rfl ?_
    refine j_aload_n B dX2_unpack_11 1 rfl rfl ?_
    refine j_get B (v := .int (σ 5 (ix d))) pgX1 rfl (fun H h => pgR.dk h hj4) 9 (by decide) q_210 rfl rfl dX2_unpack_12 ?_
    refine j_if_ne B 29 dX2_unpack_15 (by decide) (fun h8 => ?_) (fun h8 => ?_)
    · exact j_throw (k := 3) pgTS pgTS2 pgTS3 rfl q_173 q_8 rfl B hl ht (is := 91) (text := "the disk is missing, in no crate or in a sealed one") (by decide) dX2_unpack_29 dX2_unpack_32 dX2_unpack_33 dX2_unpack_35 dX2_unpack_38 (Nat.le_of_ble_eq_true rfl) (Nat.le_of_ble_eq_true rfl) (Nat.le_of_ble_eq_true rfl) (Nat.le_of_ble_eq_true rfl) (Nat.le_of_ble_eq_true rfl) (Nat.le_of_ble_eq_true rfl) (by simp only [sp_unpack]; grind) (fun H H1 h hq => pgR.more h hq)
    · refine j_aload_nN B dX2_unpack_18 0 rfl rfl ?_
      refine j_ifnullN B 29 dX2_unpack_19 (by decide) ?_
      exact j_throw (k := 3) pgTS pgTS2 pgTS3 rfl q_173 q_8 rfl B hl ht (is := 91) (text := "the disk is missing, in no crate or in a sealed one") (by decide) dX2_unpack_29 dX2_unpack_32 dX2_unpack_33 dX2_unpack_35 dX2_unpack_38 (Nat.le_of_ble_eq_true rfl) (Nat.le_of_ble_eq_true rfl) (Nat.le_of_ble_eq_true rfl) (Nat.le_of_ble_eq_true rfl) (Nat.le_of_ble_eq_true rfl) (Nat.le_of_ble_eq_true rfl) (by simp only [sp_unpack]; grind) (fun H H1 h hq => pgR.more h hq)
  · have xe7 := pgCx hc6 e7
    refine j_get B (v := .ref (ad (3 + c5))) pgX1 rfl (fun H h => pgR.dk h hj4) 4 (by decide) q_201 rfl (congrArg some (pgCv_ref hc6 e7)) dX2_unpack_7 ?_
    refine j_astore_n B (L' := [(3, .ref (ad (3 + c5))), (2, .ref (ad (13 + ix d))), (0, .ref (ad 0)), (1, .int d)]) dX2_unpack_10 rfl (by decide) rfl ?_
    refine j_aload_n B dX2_unpack_11 1 rfl rfl ?_
    refine j_get B (v := .int (σ 5 (ix d))) pgX1 rfl (fun H h => pgR.dk h hj4) 9 (by decide) q_210 rfl rfl dX2_unpack_12 ?_
    refine j_if_ne B 29 dX2_unpack_15 (by decide) (fun h9 => ?_) (fun h9 => ?_)
    · exact j_throw (k := 3) pgTS pgTS2 pgTS3 rfl q_173 q_8 rfl B hl ht (is := 91) (text := "the disk is missing, in no crate or in a sealed one") (by decide) dX2_unpack_29 dX2_unpack_32 dX2_unpack_33 dX2_unpack_35 dX2_unpack_38 (Nat.le_of_ble_eq_true rfl) (Nat.le_of_ble_eq_true rfl) (Nat.le_of_ble_eq_true rfl) (Nat.le_of_ble_eq_true rfl) (Nat.le_of_ble_eq_true rfl) (Nat.le_of_ble_eq_true rfl) (by simp only [sp_unpack]; grind) (fun H H1 h hq => pgR.more h hq)
    · refine j_aload_n B dX2_unpack_18 0 rfl rfl ?_
      refine j_ifnull B dX2_unpack_19 ?_
      refine j_aload_n B dX2_unpack_22 0 rfl rfl ?_
      refine j_cVi B (S := Unit) 0 [] (WdC' := fun _ => pgR D cD cC A σ n ad) (fun _ => pgR D cD cC A σ n ad) (c_X0_isSealed l D cD cC cI cZ cL A σ n ad c5 hc6) rfl (fun H h => pgR.cr h hc6) q_329 q_330 q_331 q_2 q_332 hdX0_isSealed rfl ⟨Nat.le_of_ble_eq_true rfl, Nat.le_of_ble_eq_true rfl⟩ (Nat.le_of_ble_eq_true rfl) dX2_unpack_23 rfl ⟨Nat.le_of_ble_eq_true rfl, Nat.le_of_ble_eq_true rfl⟩ (fun _ h => h) (fun _ _ _ _ h => h) (fun _ h => h) (fun _ _ _ _ h _ _ => h) (fun r10 _ hp11 => ?_)
      by_cases h12 : ¬ σ 11 c5 = -1
      · obtain rfl : r10 = 1 := by rw [hp11]; exact if_pos h12
        refine j_if_eq B 39 dX2_unpack_26 (by decide) (fun h13 => (absurd h13 (by decide))) (fun h13 => ?_)
        exact j_throw (k := 3) pgTS pgTS2 pgTS3 rfl q_173 q_8 rfl B hl ht (is := 91) (text := "the disk is missing, in no crate or in a sealed one") (by decide) dX2_unpack_29 dX2_unpack_32 dX2_unpack_33 dX2_unpack_35 dX2_unpack_38 (Nat.le_of_ble_eq_true rfl) (Nat.le_of_ble_eq_true rfl) (Nat.le_of_ble_eq_true rfl) (Nat.le_of_ble_eq_true rfl) (Nat.le_of_ble_eq_true rfl) (Nat.le_of_ble_eq_true rfl) (by simp only [sp_unpack]; grind) (fun H H1 h hq => pgR.more h hq)
      · obtain rfl : r10 = 0 := by rw [hp11]; exact if_neg h12
        refine j_if_eq B 39 dX2_unpack_26 (by decide) (fun h14 => ?_) (fun h14 => (absurd (by decide) h14))
        refine j_aload_n B dX2_unpack_39 1 rfl rfl ?_
        refine j_null B dX2_unpack_40 ?_
        refine j_put B (Wd' := pgR D cD cC A (pgU σ 3 (ix d) (-1)) n ad) pgX1 tyX1 tyX1_ok nmX1 rfl (fun H h => pgR.dk h hj4) 4 (by decide) q_201 rfl rfl rfl rfl rfl (Nat.le_of_ble_eq_true rfl) dX2_unpack_41 (hIn (13 + ix d) (by omega)) (fun H H1 h hc hz ho => pgR.putD h hj4 (by decide) pgDs4n hc ho) ?_
        refine j_aload_n B dX2_unpack_44 0 rfl rfl ?_
        refine j_get B (v := .int (nI c5)) pgX0 rfl (fun H h => pgR.cr h hc6) 0 (by decide) q_33 rfl rfl dX2_unpack_45 ?_
        have e9 : sp_unpack σ d = (0, nI c5, pgU σ 3 (ix d) (-1)) := by
          simp only [sp_unpack]; grind
        exact j_x (j_iret B hr rfl dX2_unpack_48 (Nat.le_of_ble_eq_true rfl) (Nat.le_of_ble_eq_true rfl) () ⟨by rw [e9], by rw [e9]⟩ (fun H h => pgR.eq h (by rw [e9])))
set_option maxHeartbeats 4000000 in
set_option maxRecDepth 100000 in
/-- seal -/
theorem c_X2_seal (l : Launch) (hl : l.stackTraces = false) (D : va_G) (cD cC cI cZ cL : ClassId) (A : Nat → Prop) (σ : pgSt) (n : Nat) (ad : Nat → Nat) (hI : pgI n σ) (c : Int32) : vx_Met l yX2_seal (.code yX2_seal cX2_seal 3 (some .int) :: pgWd) ({ frames := 7, cells := 2, slots := 12, locals := 104 } : Room) (pgPc D (pgTys cD cC cI cZ cL) A (pgR D cD cC A σ n ad) [.ref (ad 0), .int c]) (va_Qi (fun (r : Int32) (_ : Unit) => (sp_seal σ c).1 = 0 ∧ r = (sp_seal σ c).2.1) (fun _ t9 => pgR D cD cC A ((sp_seal σ c).2.2) n ad t9.heap) A) (pgX A (fun k => (sp_seal σ c).1 = k ∧ k ≠ 0) (pgR D cD cC A σ n ad)) 2 12 A := by
  refine pg_enterX (own := RX2) (by decide) rfl (Nat.le_of_ble_eq_true rfl) (fun p e s m below meth cc9 B hr hnm ht => ?_)
  refine j_fact (fun H h => pgR.inA h) (fun hIn => ?_)
  refine j_aload_n B dX2_seal_0 0 rfl rfl ?_
  refine j_iload_n B dX2_seal_1 1 rfl rfl ?_
  refine j_xVr B 1 [.int c] ht (WdC' := pgR D cD cC A σ n ad)  (c_X2_findCrate l hl D cD cC cI cZ cL A σ n ad c) rfl (fun H h => pgR.x h) q_300 q_302 q_p3 q_1 q_303 hdX2_findCrate rfl ⟨Nat.le_of_ble_eq_true rfl, Nat.le_of_ble_eq_true rfl⟩ (Nat.le_of_ble_eq_true rfl) dX2_seal_2 rfl ⟨Nat.le_of_ble_eq_true rfl, Nat.le_of_ble_eq_true rfl⟩ (Nat.le_of_ble_eq_true rfl) (Nat.le_of_ble_eq_true rfl) (fun k h => by obtain ⟨rfl, h9⟩ := h; simp only [sp_seal]; grind) (fun H h => h) (fun r1 hp2 => ?_)
  obtain ⟨rfl, hD3⟩ := hp2
  have hj4 := (pgIsC.at hD3).1
  refine j_astore_n B (L' := [(2, .ref (ad (3 + ix c))), (0, .ref (ad 0)), (1, .int c)]) dX2_seal_5 rfl (by decide) rfl ?_
  refine j_aload_n B dX2_seal_6 0 rfl rfl ?_
  refine j_cVi B (S := Unit) 0 [] (WdC' := fun _ => pgR D cD cC A σ n ad) (fun _ => pgR D cD cC A σ n ad) (c_X0_isSealed l D cD cC cI cZ cL A σ n ad (ix c) hj4) rfl (fun H h => pgR.cr h hj4) q_329 q_330 q_331 q_2 q_332 hdX0_isSealed rfl ⟨Nat.le_of_ble_eq_true rfl, Nat.le_of_ble_eq_true rfl⟩ (Nat.le_of_ble_eq_true rfl) dX2_seal_7 rfl ⟨Nat.le_of_ble_eq_true rfl, Nat.le_of_ble_eq_true rfl⟩ (fun _ h => h) (fun _ _ _ _ h => h) (fun _ h => h) (fun _ _ _ _ h _ _ => h) (fun r5 _ hp6 => ?_)
  by_cases h7 : ¬ σ 11 (ix c) = -1
  · obtain rfl : r5 = 1 := by rw [hp6]; exact if_pos h7
    refine j_if_ne B 22 dX2_seal_10 (by decide) (fun h8 => ?_) (fun h8 => (absurd h8 (by decide)))
    exact j_throw (k := 3) pgTS pgTS2 pgTS3 rfl q_173 q_8 rfl B hl ht (is := 99) (text := "the crate is sealed or no more seals can be made") (by decide) dX2_seal_22 dX2_seal_25 dX2_seal_26 dX2_seal_28 dX2_seal_31 (Nat.le_of_ble_eq_true rfl) (Nat.le_of_ble_eq_true rfl) (Nat.le_of_ble_eq_true rfl) (Nat.le_of_ble_eq_true rfl) (Nat.le_of_ble_eq_true rfl) (Nat.le_of_ble_eq_true rfl) (by simp only [sp_seal]; grind) (fun H H1 h hq => pgR.more h hq)
  · obtain rfl : r5 = 0 := by rw [hp6]; exact if_neg h7
    refine j_if_ne B 22 dX2_seal_10 (by decide) (fun h9 => (absurd (by decide) h9)) (fun h9 => ?_)
    refine j_aload_n B dX2_seal_13 1 rfl rfl ?_
    refine j_get B (v := .int (σ 13 1)) pgX2 rfl (fun H h => pgR.x h) 3 (by decide) q_50 rfl rfl dX2_seal_14 ?_
    refine j_bipush B (v := 100) dX2_seal_17 (by decide) ?_
    refine j_icmp_lt B 32 dX2_seal_19 (by decide) (fun h10 => ?_) (fun h10 => ?_)
    · refine j_aload_n B dX2_seal_32 0 rfl rfl ?_
      refine j_aload_n B dX2_seal_33 1 rfl rfl ?_
      refine j_get B (v := .int (σ 13 1)) pgX2 rfl (fun H h => pgR.x h) 3 (by decide) q_50 rfl rfl dX2_seal_34 ?_
      refine j_put B (Wd' := pgR D cD cC A (pgU σ 11 (ix c) (σ 13 1)) n ad) pgX0 tyX0 tyX0_ok nmX0 rfl (fun H h => pgR.cr h hj4) 2 (by decide) q_36 rfl rfl rfl rfl rfl (Nat.le_of_ble_eq_true rfl) dX2_seal_37 (hIn (3 + ix c) (by omega)) (fun H H1 h hc hz ho => pgR.putK h hj4 (by decide) pgKs2 hc ho) ?_
      refine j_aload_n B dX2_seal_40 0 rfl rfl ?_
      refine j_aload_n B dX2_seal_41 1 rfl rfl ?_
      refine j_aload_n B dX2_seal_42 0 rfl rfl ?_
      refine j_cVi B (S := Unit) 1 [.ref (ad (3 + ix c))] (WdC' := fun _ => pgR D cD cC A (pgU σ 11 (ix c) (σ 13 1)) n ad) (fun _ => pgR D cD cC A (pgU σ 11 (ix c) (σ 13 1)) n ad) (c_X2_countDisksIn l D cD cC cI cZ cL A (pgU σ 11 (ix c) (σ 13 1)) n ad (ix c) hj4 hI.1 (pgCr_ne (by decide) hI.2.2.1)) rfl (fun H h => pgR.x h) q_334 q_336 q_p4 q_1 q_337 hdX2_countDisksIn rfl ⟨Nat.le_of_ble_eq_true rfl, Nat.le_of_ble_eq_true rfl⟩ (Nat.le_of_ble_eq_true rfl) dX2_seal_43 rfl ⟨Nat.le_of_ble_eq_true rfl, Nat.le_of_ble_eq_true rfl⟩ (fun _ h => h) (fun _ _ _ _ h => h) (fun _ h => h) (fun _ _ _ _ h _ _ => h) (fun r11 _ hp12 => ?_)
      obtain rfl : r11 = pgCnt (pgU σ 11 (ix c) (σ 13 1)) n (nI (ix c)) := hp12
      refine j_put B (Wd' := pgR D cD cC A (pgU (pgU σ 11 (ix c) (σ 13 1)) 12 (ix c) (pgCnt (pgU σ 11 (ix c) (σ 13 1)) n (nI (ix c)))) n ad) pgX0 tyX0 tyX0_ok nmX0 rfl (fun H h => pgR.cr h hj4) 3 (by decide) q_37 rfl rfl rfl rfl rfl (Nat.le_of_ble_eq_true rfl) dX2_seal_46 (hIn (3 + ix c) (by omega)) (fun H H1 h hc hz ho => pgR.putK h hj4 (by decide) pgKs3 hc ho) ?_
      refine j_aload_n B dX2_seal_49 1 rfl rfl ?_
      refine j_dup B dX2_seal_50 rfl ?_
      refine j_get B (v := .int (σ 13 1)) pgX2 rfl (fun H h => pgR.x h) 3 (by decide) q_50 rfl rfl dX2_seal_51 ?_
      refine j_iconst B (v := 1) dX2_seal_54 (by decide) ?_
      refine j_iadd B dX2_seal_55 ?_
      refine j_put B (Wd' := pgR D cD cC A (pgU (pgU (pgU σ 11 (ix c) (σ 13 1)) 12 (ix c) (pgCnt (pgU σ 11 (ix c) (σ 13 1)) n (nI (ix c)))) 13 1 ((σ 13 1) + 1)) n ad) pgX2 tyX2 tyX2_ok nmX2 rfl (fun H h => pgR.x h) 3 (by decide) q_50 rfl rfl rfl rfl rfl (Nat.le_of_ble_eq_true rfl) dX2_seal_56 (hIn 0 (by omega)) (fun H H1 h hc hz ho => pgR.putX h pgXs3 hc ho) ?_
      refine j_aload_n B dX2_seal_59 0 rfl rfl ?_
      refine j_get B (v := .int (σ 13 1)) pgX0 rfl (fun H h => pgR.cr h hj4) 2 (by decide) q_36 rfl (by simp [pgU]) dX2_seal_60 ?_
      have hn7 : ix (σ 13 0) = n := pgI_n hI
      have hc7 : nI (ix c) = c := (pgIsC.at (by assumption)).2.symm
      have e9 : sp_seal σ c = (0, σ 13 1, pgU (pgU (pgU σ 11 (ix c) (σ 13 1)) 12 (ix c) (pgCnt (pgU σ 11 (ix c) (σ 13 1)) n (nI (ix c)))) 13 1 ((σ 13 1) + 1)) := by
        simp only [sp_seal, hn7, hc7, pgCnt, pgU_self, pgU_ne (show (3 : Nat) ≠ 11 by decide), pgU_ne (show (11 : Nat) ≠ 12 by decide), pgU_ne (show (11 : Nat) ≠ 13 by decide)]; grind
      exact j_x (j_iret B hr rfl dX2_seal_63 (Nat.le_of_ble_eq_true rfl) (Nat.le_of_ble_eq_true rfl) () ⟨by rw [e9], by rw [e9]⟩ (fun H h => pgR.eq h (by rw [e9])))
    · exact j_throw (k := 3) pgTS pgTS2 pgTS3 rfl q_173 q_8 rfl B hl ht (is := 99) (text := "the crate is sealed or no more seals can be made") (by decide) dX2_seal_22 dX2_seal_25 dX2_seal_26 dX2_seal_28 dX2_seal_31 (Nat.le_of_ble_eq_true rfl) (Nat.le_of_ble_eq_true rfl) (Nat.le_of_ble_eq_true rfl) (Nat.le_of_ble_eq_true rfl) (Nat.le_of_ble_eq_true rfl) (Nat.le_of_ble_eq_true rfl) (by simp only [sp_seal]; grind) (fun H H1 h hq => pgR.more h hq)
set_option maxHeartbeats 4000000 in
set_option maxRecDepth 100000 in
/-- open -/
theorem c_X2_open (l : Launch) (hl : l.stackTraces = false) (D : va_G) (cD cC cI cZ cL : ClassId) (A : Nat → Prop) (σ : pgSt) (n : Nat) (ad : Nat → Nat) (hI : pgI n σ) (c : Int32) (k0 : Int32) : vx_Met l yX2_open (.code yX2_open cX2_open 5 (some .int) :: pgWd) ({ frames := 7, cells := 2, slots := 12, locals := 104 } : Room) (pgPc D (pgTys cD cC cI cZ cL) A (pgR D cD cC A σ n ad) [.ref (ad 0), .int c, .int k0]) (va_Qi (fun (r : Int32) (_ : Unit) => (sp_open σ c k0).1 = 0 ∧ r = (sp_open σ c k0).2.1) (fun _ t9 => pgR D cD cC A ((sp_open σ c k0).2.2) n ad t9.heap) A) (pgX A (fun k => (sp_open σ c k0).1 = k ∧ k ≠ 0) (pgR D cD cC A σ n ad)) 2 12 A := by
  refine pg_enterX (own := RX2) (by decide) rfl (Nat.le_of_ble_eq_true rfl) (fun p e s m below meth cc9 B hr hnm ht => ?_)
  refine j_fact (fun H h => pgR.inA h) (fun hIn => ?_)
  refine j_aload_n B dX2_open_0 0 rfl rfl ?_
  refine j_iload_n B dX2_open_1 1 rfl rfl ?_
  refine j_xVr B 1 [.int c] ht (WdC' := pgR D cD cC A σ n ad)  (c_X2_findCrate l hl D cD cC cI cZ cL A σ n ad c) rfl (fun H h => pgR.x h) q_300 q_302 q_p3 q_1 q_303 hdX2_findCrate rfl ⟨Nat.le_of_ble_eq_true rfl, Nat.le_of_ble_eq_true rfl⟩ (Nat.le_of_ble_eq_true rfl) dX2_open_2 rfl ⟨Nat.le_of_ble_eq_true rfl, Nat.le_of_ble_eq_true rfl⟩ (Nat.le_of_ble_eq_true rfl) (Nat.le_of_ble_eq_true rfl) (fun k h => by obtain ⟨rfl, h9⟩ := h; simp only [sp_open]; grind) (fun H h => h) (fun r1 hp2 => ?_)
  obtain ⟨rfl, hD3⟩ := hp2
  have hj4 := (pgIsC.at hD3).1
  refine j_astore_n B (L' := [(3, .ref (ad (3 + ix c))), (0, .ref (ad 0)), (1, .int c), (2, .int k0)]) dX2_open_5 rfl (by decide) rfl ?_
  refine j_iload_n B dX2_open_6 3 rfl rfl ?_
  refine j_if_lt B 16 dX2_open_7 (by decide) (fun h5 => ?_) (fun h5 => ?_)
  · exact j_throw (k := 2) pgTA pgTA2 pgTA3 rfl q_157 q_7 rfl B hl ht (is := 107) (text := "the count is out of range") (by decide) dX2_open_16 dX2_open_19 dX2_open_20 dX2_open_22 dX2_open_25 (Nat.le_of_ble_eq_true rfl) (Nat.le_of_ble_eq_true rfl) (Nat.le_of_ble_eq_true rfl) (Nat.le_of_ble_eq_true rfl) (Nat.le_of_ble_eq_true rfl) (Nat.le_of_ble_eq_true rfl) (by simp only [sp_open]; grind) (fun H H1 h hq => pgR.more h hq)
  · refine j_iload_n B dX2_open_10 3 rfl rfl ?_
    refine j_bipush B (v := 99) dX2_open_11 (by decide) ?_
    refine j_icmp_le B 26 dX2_open_13 (by decide) (fun h6 => ?_) (fun h6 => ?_)
    · refine j_aload_n B dX2_open_26 0 rfl rfl ?_
      refine j_cVi B (S := Unit) 0 [] (WdC' := fun _ => pgR D cD cC A σ n ad) (fun _ => pgR D cD cC A σ n ad) (c_X0_isSealed l D cD cC cI cZ cL A σ n ad (ix c) hj4) rfl (fun H h => pgR.cr h hj4) q_329 q_330 q_331 q_2 q_332 hdX0_isSealed rfl ⟨Nat.le_of_ble_eq_true rfl, Nat.le_of_ble_eq_true rfl⟩ (Nat.le_of_ble_eq_true rfl) dX2_open_27 rfl ⟨Nat.le_of_ble_eq_true rfl, Nat.le_of_ble_eq_true rfl⟩ (fun _ h => h) (fun _ _ _ _ h => h) (fun _ h => h) (fun _ _ _ _ h _ _ => h) (fun r7 _ hp8 => ?_)
      by_cases h9 : ¬ σ 11 (ix c) = -1
      · obtain rfl : r7 = 1 := by rw [hp8]; exact if_pos h9
        refine j_if_ne B 43 dX2_open_30 (by decide) (fun h10 => ?_) (fun h10 => (absurd h10 (by decide)))
        refine j_iload_n B dX2_open_43 3 rfl rfl ?_
        refine j_aload_n B dX2_open_44 0 rfl rfl ?_
        refine j_get B (v := .int (σ 12 (ix c))) pgX0 rfl (fun H h => pgR.cr h hj4) 3 (by decide) q_37 rfl rfl dX2_open_45 ?_
        refine j_isub B dX2_open_48 ?_
        refine j_istore B (L' := [(4, .int (k0 - (σ 12 (ix c)))), (3, .ref (ad (3 + ix c))), (0, .ref (ad 0)), (1, .int c), (2, .int k0)]) dX2_open_49 (by decide) rfl ?_
        refine j_aload_n B dX2_open_51 1 rfl rfl ?_
        refine j_iconst B (v := (-1)) dX2_open_52 (by decide) ?_
        refine j_put B (Wd' := pgR D cD cC A (pgU σ 11 (ix c) (-1)) n ad) pgX0 tyX0 tyX0_ok nmX0 rfl (fun H h => pgR.cr h hj4) 2 (by decide) q_36 rfl rfl rfl rfl rfl (Nat.le_of_ble_eq_true rfl) dX2_open_53 (hIn (3 + ix c) (by omega)) (fun H H1 h hc hz ho => pgR.putK h hj4 (by decide) pgKs2 hc ho) ?_
        refine j_iload B dX2_open_56 0 rfl ?_
        refine j_if_eq B 71 dX2_open_58 (by decide) (fun h11 => ?_) (fun h11 => ?_)
        · refine j_iload B dX2_open_71 0 rfl ?_
          have e9 : sp_open σ c k0 = (0, (k0 - (σ 12 (ix c))), pgU σ 11 (ix c) (-1)) := by
            simp only [sp_open]; grind
          exact j_x (j_iret B hr rfl dX2_open_73 (Nat.le_of_ble_eq_true rfl) (Nat.le_of_ble_eq_true rfl) () ⟨by rw [e9], by rw [e9]⟩ (fun H h => pgR.eq h (by rw [e9])))
        · refine j_aload_n B dX2_open_61 2 rfl rfl ?_
          refine j_dup B dX2_open_62 rfl ?_
          refine j_get B (v := .int (σ 13 2)) pgX2 rfl (fun H h => pgR.x h) 4 (by decide) q_51 rfl rfl dX2_open_63 ?_
          refine j_iconst B (v := 1) dX2_open_66 (by decide) ?_
          refine j_iadd B dX2_open_67 ?_
          refine j_put B (Wd' := pgR D cD cC A (pgU (pgU σ 11 (ix c) (-1)) 13 2 ((σ 13 2) + 1)) n ad) pgX2 tyX2 tyX2_ok nmX2 rfl (fun H h => pgR.x h) 4 (by decide) q_51 rfl rfl rfl rfl rfl (Nat.le_of_ble_eq_true rfl) dX2_open_68 (hIn 0 (by omega)) (fun H H1 h hc hz ho => pgR.putX h pgXs4 hc ho) ?_
          refine j_iload B dX2_open_71 0 rfl ?_
          have e9 : sp_open σ c k0 = (0, (k0 - (σ 12 (ix c))), pgU (pgU σ 11 (ix c) (-1)) 13 2 ((σ 13 2) + 1)) := by
            simp only [sp_open]; grind
          exact j_x (j_iret B hr rfl dX2_open_73 (Nat.le_of_ble_eq_true rfl) (Nat.le_of_ble_eq_true rfl) () ⟨by rw [e9], by rw [e9]⟩ (fun H h => pgR.eq h (by rw [e9])))
      · obtain rfl : r7 = 0 := by rw [hp8]; exact if_neg h9
        refine j_if_ne B 43 dX2_open_30 (by decide) (fun h12 => (absurd (by decide) h12)) (fun h12 => ?_)
        exact j_throw (k := 3) pgTS pgTS2 pgTS3 rfl q_173 q_8 rfl B hl ht (is := 109) (text := "the crate is open") (by decide) dX2_open_33 dX2_open_36 dX2_open_37 dX2_open_39 dX2_open_42 (Nat.le_of_ble_eq_true rfl) (Nat.le_of_ble_eq_true rfl) (Nat.le_of_ble_eq_true rfl) (Nat.le_of_ble_eq_true rfl) (Nat.le_of_ble_eq_true rfl) (Nat.le_of_ble_eq_true rfl) (by simp only [sp_open]; grind) (fun H H1 h hq => pgR.more h hq)
    · exact j_throw (k := 2) pgTA pgTA2 pgTA3 rfl q_157 q_7 rfl B hl ht (is := 107) (text := "the count is out of range") (by decide) dX2_open_16 dX2_open_19 dX2_open_20 dX2_open_22 dX2_open_25 (Nat.le_of_ble_eq_true rfl) (Nat.le_of_ble_eq_true rfl) (Nat.le_of_ble_eq_true rfl) (Nat.le_of_ble_eq_true rfl) (Nat.le_of_ble_eq_true rfl) (Nat.le_of_ble_eq_true rfl) (by simp only [sp_open]; grind) (fun H H1 h hq => pgR.more h hq)
set_option maxHeartbeats 4000000 in
set_option maxRecDepth 100000 in
/-- carry -/
theorem c_X2_carry (l : Launch) (hl : l.stackTraces = false) (D : va_G) (cD cC cI cZ cL : ClassId) (A : Nat → Prop) (σ : pgSt) (n : Nat) (ad : Nat → Nat) (hI : pgI n σ) (c : Int32) (to : Int32) : vx_Met l yX2_carry (.code yX2_carry cX2_carry 5 (some .int) :: pgWd) ({ frames := 7, cells := 3, slots := 18, locals := 104 } : Room) (pgPc D (pgTys cD cC cI cZ cL) A (pgR D cD cC A σ n ad) [.ref (ad 0), .int c, .int to]) (va_Qi (fun (r : Int32) (_ : Unit) => (sp_carry σ c to).1 = 0 ∧ r = (sp_carry σ c to).2.1) (fun _ t9 => pgR D cD cC A ((sp_carry σ c to).2.2) n ad t9.heap) A) (pgX A (fun k => (sp_carry σ c to).1 = k ∧ k ≠ 0) (pgR D cD cC A σ n ad)) 3 18 A := by
  refine pg_enterX (own := RX2) (by decide) rfl (Nat.le_of_ble_eq_true rfl) (fun p e s m below meth cc9 B hr hnm ht => ?_)
  refine j_fact (fun H h => pgR.inA h) (fun hIn => ?_)
  refine j_aload_n B dX2_carry_0 0 rfl rfl ?_
  refine j_iload_n B dX2_carry_1 1 rfl rfl ?_
  refine j_xVr B 1 [.int c] ht (WdC' := pgR D cD cC A σ n ad)  (c_X2_findCrate l hl D cD cC cI cZ cL A σ n ad c) rfl (fun H h => pgR.x h) q_300 q_302 q_p3 q_1 q_303 hdX2_findCrate rfl ⟨Nat.le_of_ble_eq_true rfl, Nat.le_of_ble_eq_true rfl⟩ (Nat.le_of_ble_eq_true rfl) dX2_carry_2 rfl ⟨Nat.le_of_ble_eq_true rfl, Nat.le_of_ble_eq_true rfl⟩ (Nat.le_of_ble_eq_true rfl) (Nat.le_of_ble_eq_true rfl) (fun k h => by obtain ⟨rfl, h9⟩ := h; simp only [sp_carry]; grind) (fun H h => h) (fun r1 hp2 => ?_)
  obtain ⟨rfl, hD3⟩ := hp2
  have hj4 := (pgIsC.at hD3).1
  refine j_astore_n B (L' := [(3, .ref (ad (3 + ix c))), (0, .ref (ad 0)), (1, .int c), (2, .int to)]) dX2_carry_5 rfl (by decide) rfl ?_
  refine j_iload_n B dX2_carry_6 3 rfl rfl ?_
  refine j_xSv B 1 [.int to] ht (S := Unit) (WdC' := fun _ => pgR D cD cC A σ n ad)  (c_X2_requireKeeper l hl D cD cC cI cZ cL A σ n ad to) q_83 q_84 q_1 q_85 hdX2_requireKeeper rfl ⟨Nat.le_of_ble_eq_true rfl, Nat.le_of_ble_eq_true rfl⟩ (Nat.le_of_ble_eq_true rfl) dX2_carry_7 rfl ⟨Nat.le_of_ble_eq_true rfl, Nat.le_of_ble_eq_true rfl⟩ (Nat.le_of_ble_eq_true rfl) (Nat.le_of_ble_eq_true rfl) (fun k h => by obtain ⟨rfl, h9⟩ := h; simp only [sp_carry]; grind) (fun H h => h) (fun u5 hp6 => ?_)
  refine j_iload_n B dX2_carry_10 3 rfl rfl ?_
  refine j_aload_n B dX2_carry_11 0 rfl rfl ?_
  refine j_get B (v := .int (σ 10 (ix c))) pgX0 rfl (fun H h => pgR.cr h hj4) 1 (by decide) q_34 rfl rfl dX2_carry_12 ?_
  refine j_icmp_ne B 28 dX2_carry_15 (by decide) (fun h7 => ?_) (fun h7 => ?_)
  · refine j_aload_n B dX2_carry_28 0 rfl rfl ?_
    refine j_cVi B (S := Unit) 0 [] (WdC' := fun _ => pgR D cD cC A σ n ad) (fun _ => pgR D cD cC A σ n ad) (c_X0_isSealed l D cD cC cI cZ cL A σ n ad (ix c) hj4) rfl (fun H h => pgR.cr h hj4) q_329 q_330 q_331 q_2 q_332 hdX0_isSealed rfl ⟨Nat.le_of_ble_eq_true rfl, Nat.le_of_ble_eq_true rfl⟩ (Nat.le_of_ble_eq_true rfl) dX2_carry_29 rfl ⟨Nat.le_of_ble_eq_true rfl, Nat.le_of_ble_eq_true rfl⟩ (fun _ h => h) (fun _ _ _ _ h => h) (fun _ h => h) (fun _ _ _ _ h _ _ => h) (fun r8 _ hp9 => ?_)
    by_cases h10 : ¬ σ 11 (ix c) = -1
    · obtain rfl : r8 = 1 := by rw [hp9]; exact if_pos h10
      refine j_if_ne B 53 dX2_carry_32 (by decide) (fun h11 => ?_) (fun h11 => (absurd h11 (by decide)))
      refine j_aload_n B dX2_carry_53 0 rfl rfl ?_
      refine j_get B (v := .int (σ 10 (ix c))) pgX0 rfl (fun H h => pgR.cr h hj4) 1 (by decide) q_34 rfl rfl dX2_carry_54 ?_
      refine j_istore B (L' := [(4, .int (σ 10 (ix c))), (3, .ref (ad (3 + ix c))), (0, .ref (ad 0)), (1, .int c), (2, .int to)]) dX2_carry_57 (by decide) rfl ?_
      refine j_aload_n B dX2_carry_59 1 rfl rfl ?_
      refine j_iload_n B dX2_carry_60 4 rfl rfl ?_
      refine j_put B (Wd' := pgR D cD cC A (pgU σ 10 (ix c) to) n ad) pgX0 tyX0 tyX0_ok nmX0 rfl (fun H h => pgR.cr h hj4) 1 (by decide) q_34 rfl rfl rfl rfl rfl (Nat.le_of_ble_eq_true rfl) dX2_carry_61 (hIn (3 + ix c) (by omega)) (fun H H1 h hc hz ho => pgR.putK h hj4 (by decide) pgKs1 hc ho) ?_
      refine j_aload_n B dX2_carry_64 2 rfl rfl ?_
      refine j_aload_n B dX2_carry_65 1 rfl rfl ?_
      refine j_cVv B (S := Unit) 1 [.ref (ad (3 + ix c))] (WdC' := fun _ => pgR D cD cC A (pgHoN (pgU σ 10 (ix c) to) (nI (ix c)) ((pgU σ 10 (ix c) to) 10 (ix c)) n) n ad) (fun _ => pgR D cD cC A (pgHoN (pgU σ 10 (ix c) to) (nI (ix c)) ((pgU σ 10 (ix c) to) 10 (ix c)) n) n ad) (c_X2_handOverDisksIn l D cD cC cI cZ cL A (pgU σ 10 (ix c) to) n ad (ix c) hj4 hI.1 (pgCr_ne (by decide) hI.2.2.1)) rfl (fun H h => pgR.x h) q_400 q_402 q_p5 q_1 q_403 hdX2_handOverDisksIn rfl ⟨Nat.le_of_ble_eq_true rfl, Nat.le_of_ble_eq_true rfl⟩ (Nat.le_of_ble_eq_true rfl) dX2_carry_66 rfl ⟨Nat.le_of_ble_eq_true rfl, Nat.le_of_ble_eq_true rfl⟩ (fun _ h => h) (fun _ _ _ _ h => h) (fun _ h => h) (fun _ _ _ _ h _ _ => h) (fun _ _ => ?_)
      refine j_iload B dX2_carry_69 0 rfl ?_
      have hn7 : ix (σ 13 0) = n := pgI_n hI
      have hc7 : nI (ix c) = c := (pgIsC.at (by assumption)).2.symm
      have e9 : sp_carry σ c to = (0, σ 10 (ix c), pgHoN (pgU σ 10 (ix c) to) (nI (ix c)) ((pgU σ 10 (ix c) to) 10 (ix c)) n) := by
        simp only [sp_carry, hn7, hc7, pgU_self]; grind
      exact j_x (j_iret B hr rfl dX2_carry_71 (Nat.le_of_ble_eq_true rfl) (Nat.le_of_ble_eq_true rfl) () ⟨by rw [e9], by rw [e9]⟩ (fun H h => pgR.eq h (by rw [e9])))
    · obtain rfl : r8 = 0 := by rw [hp9]; exact if_neg h10
      refine j_if_ne B 53 dX2_carry_32 (by decide) (fun h12 => (absurd (by decide) h12)) (fun h12 => ?_)
      refine j_aload_n B dX2_carry_35 1 rfl rfl ?_
      refine j_aload_n B dX2_carry_36 0 rfl rfl ?_
      refine j_cVi B (S := Unit) 1 [.ref (ad (3 + ix c))] (WdC' := fun _ => pgR D cD cC A σ n ad) (fun _ => pgR D cD cC A σ n ad) (c_X2_countDisksIn l D cD cC cI cZ cL A σ n ad (ix c) hj4 hI.1 hI.2.2.1) rfl (fun H h => pgR.x h) q_334 q_336 q_p4 q_1 q_337 hdX2_countDisksIn rfl ⟨Nat.le_of_ble_eq_true rfl, Nat.le_of_ble_eq_true rfl⟩ (Nat.le_of_ble_eq_true rfl) dX2_carry_37 rfl ⟨Nat.le_of_ble_eq_true rfl, Nat.le_of_ble_eq_true rfl⟩ (fun _ h => h) (fun _ _ _ _ h => h) (fun _ h => h) (fun _ _ _ _ h _ _ => h) (fun r13 _ hp14 => ?_)
      obtain rfl : r13 = pgCnt σ n (nI (ix c)) := hp14
      refine j_if_le B 53 dX2_carry_40 (by decide) (fun h15 => ?_) (fun h15 => ?_)
      · refine j_aload_n B dX2_carry_53 0 rfl rfl ?_
        refine j_get B (v := .int (σ 10 (ix c))) pgX0 rfl (fun H h => pgR.cr h hj4) 1 (by decide) q_34 rfl rfl dX2_carry_54 ?_
        refine j_istore B (L' := [(4, .int (σ 10 (ix c))), (3, .ref (ad (3 + ix c))), (0, .ref (ad 0)), (1, .int c), (2, .int to)]) dX2_carry_57 (by decide) rfl ?_
        refine j_aload_n B dX2_carry_59 1 rfl rfl ?_
        refine j_iload_n B dX2_carry_60 4 rfl rfl ?_
        refine j_put B (Wd' := pgR D cD cC A (pgU σ 10 (ix c) to) n ad) pgX0 tyX0 tyX0_ok nmX0 rfl (fun H h => pgR.cr h hj4) 1 (by decide) q_34 rfl rfl rfl rfl rfl (Nat.le_of_ble_eq_true rfl) dX2_carry_61 (hIn (3 + ix c) (by omega)) (fun H H1 h hc hz ho => pgR.putK h hj4 (by decide) pgKs1 hc ho) ?_
        refine j_aload_n B dX2_carry_64 2 rfl rfl ?_
        refine j_aload_n B dX2_carry_65 1 rfl rfl ?_
        refine j_cVv B (S := Unit) 1 [.ref (ad (3 + ix c))] (WdC' := fun _ => pgR D cD cC A (pgHoN (pgU σ 10 (ix c) to) (nI (ix c)) ((pgU σ 10 (ix c) to) 10 (ix c)) n) n ad) (fun _ => pgR D cD cC A (pgHoN (pgU σ 10 (ix c) to) (nI (ix c)) ((pgU σ 10 (ix c) to) 10 (ix c)) n) n ad) (c_X2_handOverDisksIn l D cD cC cI cZ cL A (pgU σ 10 (ix c) to) n ad (ix c) hj4 hI.1 (pgCr_ne (by decide) hI.2.2.1)) rfl (fun H h => pgR.x h) q_400 q_402 q_p5 q_1 q_403 hdX2_handOverDisksIn rfl ⟨Nat.le_of_ble_eq_true rfl, Nat.le_of_ble_eq_true rfl⟩ (Nat.le_of_ble_eq_true rfl) dX2_carry_66 rfl ⟨Nat.le_of_ble_eq_true rfl, Nat.le_of_ble_eq_true rfl⟩ (fun _ h => h) (fun _ _ _ _ h => h) (fun _ h => h) (fun _ _ _ _ h _ _ => h) (fun _ _ => ?_)
        refine j_iload B dX2_carry_69 0 rfl ?_
        have hn7 : ix (σ 13 0) = n := pgI_n hI
        have hc7 : nI (ix c) = c := (pgIsC.at (by assumption)).2.symm
        have e9 : sp_carry σ c to = (0, σ 10 (ix c), pgHoN (pgU σ 10 (ix c) to) (nI (ix c)) ((pgU σ 10 (ix c) to) 10 (ix c)) n) := by
          simp only [sp_carry, hn7, hc7, pgU_self]; grind
        exact j_x (j_iret B hr rfl dX2_carry_71 (Nat.le_of_ble_eq_true rfl) (Nat.le_of_ble_eq_true rfl) () ⟨by rw [e9], by rw [e9]⟩ (fun H h => pgR.eq h (by rw [e9])))
      · exact j_throw (k := 3) pgTS pgTS2 pgTS3 rfl q_173 q_8 rfl B hl ht (is := 116) (text := "the crate is open and has disks") (by decide) dX2_carry_43 dX2_carry_46 dX2_carry_47 dX2_carry_49 dX2_carry_52 (Nat.le_of_ble_eq_true rfl) (Nat.le_of_ble_eq_true rfl) (Nat.le_of_ble_eq_true rfl) (Nat.le_of_ble_eq_true rfl) (Nat.le_of_ble_eq_true rfl) (Nat.le_of_ble_eq_true rfl) (by have hn7 := pgI_n hI; have hc7 : nI (ix c) = c := (pgIsC.at (by assumption)).2.symm; simp only [hc7] at *; simp only [sp_carry, hn7]; grind) (fun H H1 h hq => pgR.more h hq)
  · exact j_throw (k := 2) pgTA pgTA2 pgTA3 rfl q_157 q_7 rfl B hl ht (is := 114) (text := "the crate is carried to its keeper") (by decide) dX2_carry_18 dX2_carry_21 dX2_carry_22 dX2_carry_24 dX2_carry_27 (Nat.le_of_ble_eq_true rfl) (Nat.le_of_ble_eq_true rfl) (Nat.le_of_ble_eq_true rfl) (Nat.le_of_ble_eq_true rfl) (Nat.le_of_ble_eq_true rfl) (Nat.le_of_ble_eq_true rfl) (by have hn7 := pgI_n hI; have hc7 : nI (ix c) = c := (pgIsC.at (by assumption)).2.symm; simp only [hc7] at *; simp only [sp_carry, hn7]; grind) (fun H H1 h hq => pgR.more h hq)
set_option maxHeartbeats 4000000 in
set_option maxRecDepth 100000 in
/-- wipe -/
theorem c_X2_wipe (l : Launch) (hl : l.stackTraces = false) (D : va_G) (cD cC cI cZ cL : ClassId) (A : Nat → Prop) (σ : pgSt) (n : Nat) (ad : Nat → Nat) (hI : pgI n σ) (d : Int32) (way : Int32) (w : Int32) : vx_Met l yX2_wipe (.code yX2_wipe cX2_wipe 6 (some .int) :: pgWd) ({ frames := 7, cells := 5, slots := 30, locals := 104 } : Room) (pgPc D (pgTys cD cC cI cZ cL) A (pgR D cD cC A σ n ad) [.ref (ad 0), .int d, .int way, .int w]) (va_Qi (fun (r : Int32) (_ : Unit) => (sp_wipe σ d way w).1 = 0 ∧ r = (sp_wipe σ d way w).2.1) (fun _ t9 => pgR D cD cC A ((sp_wipe σ d way w).2.2) n ad t9.heap) A) (pgX A (fun k => (sp_wipe σ d way w).1 = k ∧ k ≠ 0) (pgR D cD cC A σ n ad)) 5 30 A := by
  refine pg_enterX (own := RX2) (by decide) rfl (Nat.le_of_ble_eq_true rfl) (fun p e s m below meth cc9 B hr hnm ht => ?_)
  refine j_fact (fun H h => pgR.inA h) (fun hIn => ?_)
  refine j_aload_n B dX2_wipe_0 0 rfl rfl ?_
  refine j_iload_n B dX2_wipe_1 1 rfl rfl ?_
  refine j_xVr B 1 [.int d] ht (WdC' := pgR D cD cC A σ n ad)  (c_X2_findDisk l hl D cD cC cI cZ cL A σ n ad hI d) rfl (fun H h => pgR.x h) q_245 q_247 q_p2 q_1 q_248 hdX2_findDisk rfl ⟨Nat.le_of_ble_eq_true rfl, Nat.le_of_ble_eq_true rfl⟩ (Nat.le_of_ble_eq_true rfl) dX2_wipe_2 rfl ⟨Nat.le_of_ble_eq_true rfl, Nat.le_of_ble_eq_true rfl⟩ (Nat.le_of_ble_eq_true rfl) (Nat.le_of_ble_eq_true rfl) (fun k h => by obtain ⟨rfl, h9⟩ := h; simp only [sp_wipe]; grind) (fun H h => h) (fun r1 hp2 => ?_)
  obtain ⟨rfl, hD3⟩ := hp2
  have hj4 := (pgIsD.at hI hD3).1
  refine j_astore B (L' := [(4, .ref (ad (13 + ix d))), (0, .ref (ad 0)), (1, .int d), (2, .int way), (3, .int w)]) dX2_wipe_5 (by decide) rfl ?_
  refine j_iload_n B dX2_wipe_7 4 rfl rfl ?_
  refine j_xSv B 1 [.int w] ht (S := Unit) (WdC' := fun _ => pgR D cD cC A σ n ad)  (c_X2_requireKeeper l hl D cD cC cI cZ cL A σ n ad w) q_83 q_84 q_1 q_85 hdX2_requireKeeper rfl ⟨Nat.le_of_ble_eq_true rfl, Nat.le_of_ble_eq_true rfl⟩ (Nat.le_of_ble_eq_true rfl) dX2_wipe_8 rfl ⟨Nat.le_of_ble_eq_true rfl, Nat.le_of_ble_eq_true rfl⟩ (Nat.le_of_ble_eq_true rfl) (Nat.le_of_ble_eq_true rfl) (fun k h => by obtain ⟨rfl, h9⟩ := h; simp only [sp_wipe]; grind) (fun H h => h) (fun u5 hp6 => ?_)
  refine j_iload_n B dX2_wipe_11 3 rfl rfl ?_
  refine j_if_lt B 20 dX2_wipe_12 (by decide) (fun h7 => ?_) (fun h7 => ?_)
  · exact j_throw (k := 2) pgTA pgTA2 pgTA3 rfl q_157 q_7 rfl B hl ht (is := 122) (text := "there is no such way") (by decide) dX2_wipe_20 dX2_wipe_23 dX2_wipe_24 dX2_wipe_26 dX2_wipe_29 (Nat.le_of_ble_eq_true rfl) (Nat.le_of_ble_eq_true rfl) (Nat.le_of_ble_eq_true rfl) (Nat.le_of_ble_eq_true rfl) (Nat.le_of_ble_eq_true rfl) (Nat.le_of_ble_eq_true rfl) (by simp only [sp_wipe]; grind) (fun H H1 h hq => pgR.more h hq)
  · refine j_iload_n B dX2_wipe_15 3 rfl rfl ?_
    refine j_iconst B (v := 3) dX2_wipe_16 (by decide) ?_
    refine j_icmp_lt B 30 dX2_wipe_17 (by decide) (fun h8 => ?_) (fun h8 => ?_)
    · refine j_aload B dX2_wipe_30 0 rfl ?_
      refine j_iload_n B dX2_wipe_32 4 rfl rfl ?_
      refine j_xSv B 2 [.ref (ad (13 + ix d)), .int w] ht (S := Unit) (WdC' := fun _ => pgR D cD cC A σ n ad)  (c_X2_requireWitnessIsNotKeeper l hl D cD cC cI cZ cL A σ n ad (ix d) hj4 w) q_348 q_349 q_1 q_350 hdX2_requireWitnessIsNotKeeper rfl ⟨Nat.le_of_ble_eq_true rfl, Nat.le_of_ble_eq_true rfl⟩ (Nat.le_of_ble_eq_true rfl) dX2_wipe_33 rfl ⟨Nat.le_of_ble_eq_true rfl, Nat.le_of_ble_eq_true rfl⟩ (Nat.le_of_ble_eq_true rfl) (Nat.le_of_ble_eq_true rfl) (fun k h => by obtain ⟨rfl, h9⟩ := h; simp only [sp_wipe]; grind) (fun H h => h) (fun u9 hp10 => ?_)
      refine j_aload B dX2_wipe_36 0 rfl ?_
      refine j_xSv B 1 [.ref (ad (13 + ix d))] ht (S := Unit) (WdC' := fun _ => pgR D cD cC A σ n ad)  (c_X2_requireWithinReach l hl D cD cC cI cZ cL A σ n ad (ix d) hj4 hI.2.2.1) q_352 q_353 q_1 q_354 hdX2_requireWithinReach rfl ⟨Nat.le_of_ble_eq_true rfl, Nat.le_of_ble_eq_true rfl⟩ (Nat.le_of_ble_eq_true rfl) dX2_wipe_38 rfl ⟨Nat.le_of_ble_eq_true rfl, Nat.le_of_ble_eq_true rfl⟩ (Nat.le_of_ble_eq_true rfl) (Nat.le_of_ble_eq_true rfl) (fun k h => by obtain ⟨rfl, h9⟩ := h; simp only [sp_wipe]; grind) (fun H h => h) (fun u11 hp12 => ?_)
      refine j_aload B dX2_wipe_41 0 rfl ?_
      refine j_get B (v := .int (σ 4 (ix d))) pgX1 rfl (fun H h => pgR.dk h hj4) 6 (by decide) q_205 rfl rfl dX2_wipe_43 ?_
      refine j_iconst B (v := 1) dX2_wipe_46 (by decide) ?_
      refine j_icmp_eq B 59 dX2_wipe_47 (by decide) (fun h13 => ?_) (fun h13 => ?_)
      · exact j_throw (k := 3) pgTS pgTS2 pgTS3 rfl q_173 q_8 rfl B hl ht (is := 133) (text := "the disk is wiped or broken") (by decide) dX2_wipe_59 dX2_wipe_62 dX2_wipe_63 dX2_wipe_65 dX2_wipe_68 (Nat.le_of_ble_eq_true rfl) (Nat.le_of_ble_eq_true rfl) (Nat.le_of_ble_eq_true rfl) (Nat.le_of_ble_eq_true rfl) (Nat.le_of_ble_eq_true rfl) (Nat.le_of_ble_eq_true rfl) (by simp only [sp_wipe]; grind) (fun H H1 h hq => pgR.more h hq)
      · refine j_aload B dX2_wipe_50 0 rfl ?_
        refine j_get B (v := .int (σ 4 (ix d))) pgX1 rfl (fun H h => pgR.dk h hj4) 6 (by decide) q_205 rfl rfl dX2_wipe_52 ?_
        refine j_iconst B (v := 3) dX2_wipe_55 (by decide) ?_
        refine j_icmp_ne B 69 dX2_wipe_56 (by decide) (fun h14 => ?_) (fun h14 => ?_)
        · refine j_iload_n B dX2_wipe_69 3 rfl rfl ?_
          refine j_aload B dX2_wipe_70 0 rfl ?_
          refine j_get B (v := .int (σ 0 (ix d))) pgX1 rfl (fun H h => pgR.dk h hj4) 0 (by decide) q_195 rfl rfl dX2_wipe_72 ?_
          refine j_icmp_ne B 91 dX2_wipe_75 (by decide) (fun h15 => ?_) (fun h15 => ?_)
          · refine j_iconst B (v := 0) dX2_wipe_91 (by decide) ?_
            refine j_istore B (L' := [(5, .int 0), (4, .ref (ad (13 + ix d))), (0, .ref (ad 0)), (1, .int d), (2, .int way), (3, .int w)]) dX2_wipe_92 (by decide) rfl ?_
            refine j_aload B dX2_wipe_94 1 rfl ?_
            refine j_iload B dX2_wipe_96 0 rfl ?_
            refine j_if_eq B 105 dX2_wipe_98 (by decide) (fun h16 => ?_) (fun h16 => (absurd (by decide) h16))
            refine j_iconst B (v := 2) dX2_wipe_105 (by decide) ?_
            refine j_put B (Wd' := pgR D cD cC A (pgU σ 4 (ix d) 2) n ad) pgX1 tyX1 tyX1_ok nmX1 rfl (fun H h => pgR.dk h hj4) 6 (by decide) q_205 rfl rfl rfl rfl rfl (Nat.le_of_ble_eq_true rfl) dX2_wipe_106 (hIn (13 + ix d) (by omega)) (fun H H1 h hc hz ho => pgR.putD h hj4 (by decide) pgDs6 hc ho) ?_
            refine j_aload B dX2_wipe_109 1 rfl ?_
            refine j_aload B dX2_wipe_111 1 rfl ?_
            refine j_get B (v := .int (σ 2 (ix d))) pgX1 rfl (fun H h => pgR.dk h hj4) 2 (by decide) q_198 rfl rfl dX2_wipe_113 ?_
            refine j_put B (Wd' := pgR D cD cC A (pgU (pgU σ 4 (ix d) 2) 7 (ix d) (σ 2 (ix d))) n ad) pgX1 tyX1 tyX1_ok nmX1 rfl (fun H h => pgR.dk h hj4) 7 (by decide) q_207 rfl rfl rfl rfl rfl (Nat.le_of_ble_eq_true rfl) dX2_wipe_116 (hIn (13 + ix d) (by omega)) (fun H H1 h hc hz ho => pgR.putD h hj4 (by decide) pgDs7 hc ho) ?_
            refine j_aload B dX2_wipe_119 1 rfl ?_
            refine j_iconst B (v := 0) dX2_wipe_121 (by decide) ?_
            refine j_put B (Wd' := pgR D cD cC A (pgU (pgU (pgU σ 4 (ix d) 2) 7 (ix d) (σ 2 (ix d))) 8 (ix d) 0) n ad) pgX1 tyX1 tyX1_ok nmX1 rfl (fun H h => pgR.dk h hj4) 8 (by decide) q_209 rfl rfl rfl rfl rfl (Nat.le_of_ble_eq_true rfl) dX2_wipe_122 (hIn (13 + ix d) (by omega)) (fun H H1 h hc hz ho => pgR.putD h hj4 (by decide) pgDs8 hc ho) ?_
            refine j_aload B dX2_wipe_125 1 rfl ?_
            refine j_get B (v := .int 2) pgX1 rfl (fun H h => pgR.dk h hj4) 6 (by decide) q_205 rfl (by simp [pgU]) dX2_wipe_127 ?_
            have e9 : sp_wipe σ d way w = (0, 2, pgU (pgU (pgU σ 4 (ix d) 2) 7 (ix d) (σ 2 (ix d))) 8 (ix d) 0) := by
              simp only [sp_wipe, pgU_self, pgU_ne (show (4 : Nat) ≠ 7 by decide), pgU_ne (show (4 : Nat) ≠ 8 by decide)]; grind
            exact j_x (j_iret B hr rfl dX2_wipe_130 (Nat.le_of_ble_eq_true rfl) (Nat.le_of_ble_eq_true rfl) () ⟨by rw [e9], by rw [e9]⟩ (fun H h => pgR.eq h (by rw [e9])))
          · refine j_aload B dX2_wipe_78 0 rfl ?_
            refine j_get B (v := .int (σ 1 (ix d))) pgX1 rfl (fun H h => pgR.dk h hj4) 1 (by decide) q_197 rfl rfl dX2_wipe_80 ?_
            refine j_iconst B (v := 3) dX2_wipe_83 (by decide) ?_
            refine j_icmp_ge B 91 dX2_wipe_84 (by decide) (fun h17 => ?_) (fun h17 => ?_)
            · refine j_iconst B (v := 0) dX2_wipe_91 (by decide) ?_
              refine j_istore B (L' := [(5, .int 0), (4, .ref (ad (13 + ix d))), (0, .ref (ad 0)), (1, .int d), (2, .int way), (3, .int w)]) dX2_wipe_92 (by decide) rfl ?_
              refine j_aload B dX2_wipe_94 1 rfl ?_
              refine j_iload B dX2_wipe_96 0 rfl ?_
              refine j_if_eq B 105 dX2_wipe_98 (by decide) (fun h18 => ?_) (fun h18 => (absurd (by decide) h18))
              refine j_iconst B (v := 2) dX2_wipe_105 (by decide) ?_
              refine j_put B (Wd' := pgR D cD cC A (pgU σ 4 (ix d) 2) n ad) pgX1 tyX1 tyX1_ok nmX1 rfl (fun H h => pgR.dk h hj4) 6 (by decide) q_205 rfl rfl rfl rfl rfl (Nat.le_of_ble_eq_true rfl) dX2_wipe_106 (hIn (13 + ix d) (by omega)) (fun H H1 h hc hz ho => pgR.putD h hj4 (by decide) pgDs6 hc ho) ?_
              refine j_aload B dX2_wipe_109 1 rfl ?_
              refine j_aload B dX2_wipe_111 1 rfl ?_
              refine j_get B (v := .int (σ 2 (ix d))) pgX1 rfl (fun H h => pgR.dk h hj4) 2 (by decide) q_198 rfl rfl dX2_wipe_113 ?_
              refine j_put B (Wd' := pgR D cD cC A (pgU (pgU σ 4 (ix d) 2) 7 (ix d) (σ 2 (ix d))) n ad) pgX1 tyX1 tyX1_ok nmX1 rfl (fun H h => pgR.dk h hj4) 7 (by decide) q_207 rfl rfl rfl rfl rfl (Nat.le_of_ble_eq_true rfl) dX2_wipe_116 (hIn (13 + ix d) (by omega)) (fun H H1 h hc hz ho => pgR.putD h hj4 (by decide) pgDs7 hc ho) ?_
              refine j_aload B dX2_wipe_119 1 rfl ?_
              refine j_iconst B (v := 0) dX2_wipe_121 (by decide) ?_
              refine j_put B (Wd' := pgR D cD cC A (pgU (pgU (pgU σ 4 (ix d) 2) 7 (ix d) (σ 2 (ix d))) 8 (ix d) 0) n ad) pgX1 tyX1 tyX1_ok nmX1 rfl (fun H h => pgR.dk h hj4) 8 (by decide) q_209 rfl rfl rfl rfl rfl (Nat.le_of_ble_eq_true rfl) dX2_wipe_122 (hIn (13 + ix d) (by omega)) (fun H H1 h hc hz ho => pgR.putD h hj4 (by decide) pgDs8 hc ho) ?_
              refine j_aload B dX2_wipe_125 1 rfl ?_
              refine j_get B (v := .int 2) pgX1 rfl (fun H h => pgR.dk h hj4) 6 (by decide) q_205 rfl (by simp [pgU]) dX2_wipe_127 ?_
              have e9 : sp_wipe σ d way w = (0, 2, pgU (pgU (pgU σ 4 (ix d) 2) 7 (ix d) (σ 2 (ix d))) 8 (ix d) 0) := by
                simp only [sp_wipe, pgU_self, pgU_ne (show (4 : Nat) ≠ 7 by decide), pgU_ne (show (4 : Nat) ≠ 8 by decide)]; grind
              exact j_x (j_iret B hr rfl dX2_wipe_130 (Nat.le_of_ble_eq_true rfl) (Nat.le_of_ble_eq_true rfl) () ⟨by rw [e9], by rw [e9]⟩ (fun H h => pgR.eq h (by rw [e9])))
            · refine j_iconst B (v := 1) dX2_wipe_87 (by decide) ?_
              refine j_goto B 92 dX2_wipe_88 (by decide) ?_
              refine j_istore B (L' := [(5, .int 1), (4, .ref (ad (13 + ix d))), (0, .ref (ad 0)), (1, .int d), (2, .int way), (3, .int w)]) dX2_wipe_92 (by decide) rfl ?_
              refine j_aload B dX2_wipe_94 1 rfl ?_
              refine j_iload B dX2_wipe_96 0 rfl ?_
              refine j_if_eq B 105 dX2_wipe_98 (by decide) (fun h19 => (absurd h19 (by decide))) (fun h19 => ?_)
              refine j_iconst B (v := 1) dX2_wipe_101 (by decide) ?_
              refine j_goto B 106 dX2_wipe_102 (by decide) ?_
              refine j_put B (Wd' := pgR D cD cC A (pgU σ 4 (ix d) 1) n ad) pgX1 tyX1 tyX1_ok nmX1 rfl (fun H h => pgR.dk h hj4) 6 (by decide) q_205 rfl rfl rfl rfl rfl (Nat.le_of_ble_eq_true rfl) dX2_wipe_106 (hIn (13 + ix d) (by omega)) (fun H H1 h hc hz ho => pgR.putD h hj4 (by decide) pgDs6 hc ho) ?_
              refine j_aload B dX2_wipe_109 1 rfl ?_
              refine j_aload B dX2_wipe_111 1 rfl ?_
              refine j_get B (v := .int (σ 2 (ix d))) pgX1 rfl (fun H h => pgR.dk h hj4) 2 (by decide) q_198 rfl rfl dX2_wipe_113 ?_
              refine j_put B (Wd' := pgR D cD cC A (pgU (pgU σ 4 (ix d) 1) 7 (ix d) (σ 2 (ix d))) n ad) pgX1 tyX1 tyX1_ok nmX1 rfl (fun H h => pgR.dk h hj4) 7 (by decide) q_207 rfl rfl rfl rfl rfl (Nat.le_of_ble_eq_true rfl) dX2_wipe_116 (hIn (13 + ix d) (by omega)) (fun H H1 h hc hz ho => pgR.putD h hj4 (by decide) pgDs7 hc ho) ?_
              refine j_aload B dX2_wipe_119 1 rfl ?_
              refine j_iconst B (v := 0) dX2_wipe_121 (by decide) ?_
              refine j_put B (Wd' := pgR D cD cC A (pgU (pgU (pgU σ 4 (ix d) 1) 7 (ix d) (σ 2 (ix d))) 8 (ix d) 0) n ad) pgX1 tyX1 tyX1_ok nmX1 rfl (fun H h => pgR.dk h hj4) 8 (by decide) q_209 rfl rfl rfl rfl rfl (Nat.le_of_ble_eq_true rfl) dX2_wipe_122 (hIn (13 + ix d) (by omega)) (fun H H1 h hc hz ho => pgR.putD h hj4 (by decide) pgDs8 hc ho) ?_
              refine j_aload B dX2_wipe_125 1 rfl ?_
              refine j_get B (v := .int 1) pgX1 rfl (fun H h => pgR.dk h hj4) 6 (by decide) q_205 rfl (by simp [pgU]) dX2_wipe_127 ?_
              have e9 : sp_wipe σ d way w = (0, 1, pgU (pgU (pgU σ 4 (ix d) 1) 7 (ix d) (σ 2 (ix d))) 8 (ix d) 0) := by
                simp only [sp_wipe, pgU_self, pgU_ne (show (4 : Nat) ≠ 7 by decide), pgU_ne (show (4 : Nat) ≠ 8 by decide)]; grind
              exact j_x (j_iret B hr rfl dX2_wipe_130 (Nat.le_of_ble_eq_true rfl) (Nat.le_of_ble_eq_true rfl) () ⟨by rw [e9], by rw [e9]⟩ (fun H h => pgR.eq h (by rw [e9])))
        · exact j_throw (k := 3) pgTS pgTS2 pgTS3 rfl q_173 q_8 rfl B hl ht (is := 133) (text := "the disk is wiped or broken") (by decide) dX2_wipe_59 dX2_wipe_62 dX2_wipe_63 dX2_wipe_65 dX2_wipe_68 (Nat.le_of_ble_eq_true rfl) (Nat.le_of_ble_eq_true rfl) (Nat.le_of_ble_eq_true rfl) (Nat.le_of_ble_eq_true rfl) (Nat.le_of_ble_eq_true rfl) (Nat.le_of_ble_eq_true rfl) (by simp only [sp_wipe]; grind) (fun H H1 h hq => pgR.more h hq)
    · exact j_throw (k := 2) pgTA pgTA2 pgTA3 rfl q_157 q_7 rfl B hl ht (is := 122) (text := "there is no such way") (by decide) dX2_wipe_20 dX2_wipe_23 dX2_wipe_24 dX2_wipe_26 dX2_wipe_29 (Nat.le_of_ble_eq_true rfl) (Nat.le_of_ble_eq_true rfl) (Nat.le_of_ble_eq_true rfl) (Nat.le_of_ble_eq_true rfl) (Nat.le_of_ble_eq_true rfl) (Nat.le_of_ble_eq_true rfl) (by simp only [sp_wipe]; grind) (fun H H1 h hq => pgR.more h hq)
set_option maxHeartbeats 4000000 in
set_option maxRecDepth 100000 in
/-- smash -/
theorem c_X2_smash (l : Launch) (hl : l.stackTraces = false) (D : va_G) (cD cC cI cZ cL : ClassId) (A : Nat → Prop) (σ : pgSt) (n : Nat) (ad : Nat → Nat) (hI : pgI n σ) (d : Int32) (w : Int32) : vx_Met l yX2_smash (.code yX2_smash cX2_smash 5 (some .int) :: pgWd) ({ frames := 7, cells := 5, slots := 30, locals := 104 } : Room) (pgPc D (pgTys cD cC cI cZ cL) A (pgR D cD cC A σ n ad) [.ref (ad 0), .int d, .int w]) (va_Qi (fun (r : Int32) (_ : Unit) => (sp_smash σ d w).1 = 0 ∧ r = (sp_smash σ d w).2.1) (fun _ t9 => pgR D cD cC A ((sp_smash σ d w).2.2) n ad t9.heap) A) (pgX A (fun k => (sp_smash σ d w).1 = k ∧ k ≠ 0) (pgR D cD cC A σ n ad)) 5 30 A := by
  refine pg_enterX (own := RX2) (by decide) rfl (Nat.le_of_ble_eq_true rfl) (fun p e s m below meth cc9 B hr hnm ht => ?_)
  refine j_fact (fun H h => pgR.inA h) (fun hIn => ?_)
  refine j_aload_n B dX2_smash_0 0 rfl rfl ?_
  refine j_iload_n B dX2_smash_1 1 rfl rfl ?_
  refine j_xVr B 1 [.int d] ht (WdC' := pgR D cD cC A σ n ad)  (c_X2_findDisk l hl D cD cC cI cZ cL A σ n ad hI d) rfl (fun H h => pgR.x h) q_245 q_247 q_p2 q_1 q_248 hdX2_findDisk rfl ⟨Nat.le_of_ble_eq_true rfl, Nat.le_of_ble_eq_true rfl⟩ (Nat.le_of_ble_eq_true rfl) dX2_smash_2 rfl ⟨Nat.le_of_ble_eq_true rfl, Nat.le_of_ble_eq_true rfl⟩ (Nat.le_of_ble_eq_true rfl) (Nat.le_of_ble_eq_true rfl) (fun k h => by obtain ⟨rfl, h9⟩ := h; simp only [sp_smash]; grind) (fun H h => h) (fun r1 hp2 => ?_)
  obtain ⟨rfl, hD3⟩ := hp2
  have hj4 := (pgIsD.at hI hD3).1
  refine j_astore_n B (L' := [(3, .ref (ad (13 + ix d))), (0, .ref (ad 0)), (1, .int d), (2, .int w)]) dX2_smash_5 rfl (by decide) rfl ?_
  refine j_iload_n B dX2_smash_6 3 rfl rfl ?_
  refine j_xSv B 1 [.int w] ht (S := Unit) (WdC' := fun _ => pgR D cD cC A σ n ad)  (c_X2_requireKeeper l hl D cD cC cI cZ cL A σ n ad w) q_83 q_84 q_1 q_85 hdX2_requireKeeper rfl ⟨Nat.le_of_ble_eq_true rfl, Nat.le_of_ble_eq_true rfl⟩ (Nat.le_of_ble_eq_true rfl) dX2_smash_7 rfl ⟨Nat.le_of_ble_eq_true rfl, Nat.le_of_ble_eq_true rfl⟩ (Nat.le_of_ble_eq_true rfl) (Nat.le_of_ble_eq_true rfl) (fun k h => by obtain ⟨rfl, h9⟩ := h; simp only [sp_smash]; grind) (fun H h => h) (fun u5 hp6 => ?_)
  refine j_aload_n B dX2_smash_10 0 rfl rfl ?_
  refine j_iload_n B dX2_smash_11 3 rfl rfl ?_
  refine j_xSv B 2 [.ref (ad (13 + ix d)), .int w] ht (S := Unit) (WdC' := fun _ => pgR D cD cC A σ n ad)  (c_X2_requireWitnessIsNotKeeper l hl D cD cC cI cZ cL A σ n ad (ix d) hj4 w) q_348 q_349 q_1 q_350 hdX2_requireWitnessIsNotKeeper rfl ⟨Nat.le_of_ble_eq_true rfl, Nat.le_of_ble_eq_true rfl⟩ (Nat.le_of_ble_eq_true rfl) dX2_smash_12 rfl ⟨Nat.le_of_ble_eq_true rfl, Nat.le_of_ble_eq_true rfl⟩ (Nat.le_of_ble_eq_true rfl) (Nat.le_of_ble_eq_true rfl) (fun k h => by obtain ⟨rfl, h9⟩ := h; simp only [sp_smash]; grind) (fun H h => h) (fun u7 hp8 => ?_)
  refine j_aload_n B dX2_smash_15 0 rfl rfl ?_
  refine j_xSv B 1 [.ref (ad (13 + ix d))] ht (S := Unit) (WdC' := fun _ => pgR D cD cC A σ n ad)  (c_X2_requireWithinReach l hl D cD cC cI cZ cL A σ n ad (ix d) hj4 hI.2.2.1) q_352 q_353 q_1 q_354 hdX2_requireWithinReach rfl ⟨Nat.le_of_ble_eq_true rfl, Nat.le_of_ble_eq_true rfl⟩ (Nat.le_of_ble_eq_true rfl) dX2_smash_16 rfl ⟨Nat.le_of_ble_eq_true rfl, Nat.le_of_ble_eq_true rfl⟩ (Nat.le_of_ble_eq_true rfl) (Nat.le_of_ble_eq_true rfl) (fun k h => by obtain ⟨rfl, h9⟩ := h; simp only [sp_smash]; grind) (fun H h => h) (fun u9 hp10 => ?_)
  refine j_aload_n B dX2_smash_19 0 rfl rfl ?_
  refine j_get B (v := .int (σ 4 (ix d))) pgX1 rfl (fun H h => pgR.dk h hj4) 6 (by decide) q_205 rfl rfl dX2_smash_20 ?_
  refine j_iconst B (v := 3) dX2_smash_23 (by decide) ?_
  refine j_icmp_ne B 37 dX2_smash_24 (by decide) (fun h11 => ?_) (fun h11 => ?_)
  · refine j_aload_n B dX2_smash_37 0 rfl rfl ?_
    refine j_get B (v := .int (σ 4 (ix d))) pgX1 rfl (fun H h => pgR.dk h hj4) 6 (by decide) q_205 rfl rfl dX2_smash_38 ?_
    refine j_istore B (L' := [(4, .int (σ 4 (ix d))), (3, .ref (ad (13 + ix d))), (0, .ref (ad 0)), (1, .int d), (2, .int w)]) dX2_smash_41 (by decide) rfl ?_
    refine j_aload_n B dX2_smash_43 1 rfl rfl ?_
    refine j_iconst B (v := 3) dX2_smash_44 (by decide) ?_
    refine j_put B (Wd' := pgR D cD cC A (pgU σ 4 (ix d) 3) n ad) pgX1 tyX1 tyX1_ok nmX1 rfl (fun H h => pgR.dk h hj4) 6 (by decide) q_205 rfl rfl rfl rfl rfl (Nat.le_of_ble_eq_true rfl) dX2_smash_45 (hIn (13 + ix d) (by omega)) (fun H H1 h hc hz ho => pgR.putD h hj4 (by decide) pgDs6 hc ho) ?_
    refine j_iload B dX2_smash_48 0 rfl ?_
    have e9 : sp_smash σ d w = (0, σ 4 (ix d), pgU σ 4 (ix d) 3) := by
      simp only [sp_smash]; grind
    exact j_x (j_iret B hr rfl dX2_smash_50 (Nat.le_of_ble_eq_true rfl) (Nat.le_of_ble_eq_true rfl) () ⟨by rw [e9], by rw [e9]⟩ (fun H h => pgR.eq h (by rw [e9])))
  · exact j_throw (k := 3) pgTS pgTS2 pgTS3 rfl q_173 q_8 rfl B hl ht (is := 147) (text := "the disk is broken") (by decide) dX2_smash_27 dX2_smash_30 dX2_smash_31 dX2_smash_33 dX2_smash_36 (Nat.le_of_ble_eq_true rfl) (Nat.le_of_ble_eq_true rfl) (Nat.le_of_ble_eq_true rfl) (Nat.le_of_ble_eq_true rfl) (Nat.le_of_ble_eq_true rfl) (Nat.le_of_ble_eq_true rfl) (by simp only [sp_smash]; grind) (fun H H1 h hq => pgR.more h hq)
set_option maxHeartbeats 4000000 in
set_option maxRecDepth 100000 in
/-- check -/
theorem c_X2_check (l : Launch) (hl : l.stackTraces = false) (D : va_G) (cD cC cI cZ cL : ClassId) (A : Nat → Prop) (σ : pgSt) (n : Nat) (ad : Nat → Nat) (hI : pgI n σ) (d : Int32) (w : Int32) (g : Int32) (hg : g = 0 ∨ g = 1) : vx_Met l yX2_check (.code yX2_check cX2_check 5 (some .int) :: pgWd) ({ frames := 7, cells := 4, slots := 24, locals := 104 } : Room) (pgPc D (pgTys cD cC cI cZ cL) A (pgR D cD cC A σ n ad) [.ref (ad 0), .int d, .int w, .int g]) (va_Qi (fun (r : Int32) (_ : Unit) => (sp_check σ d w g).1 = 0 ∧ r = (sp_check σ d w g).2.1) (fun _ t9 => pgR D cD cC A ((sp_check σ d w g).2.2) n ad t9.heap) A) (pgX A (fun k => (sp_check σ d w g).1 = k ∧ k ≠ 0) (pgR D cD cC A σ n ad)) 4 24 A := by
  refine pg_enterX (own := RX2) (by decide) rfl (Nat.le_of_ble_eq_true rfl) (fun p e s m below meth cc9 B hr hnm ht => ?_)
  refine j_fact (fun H h => pgR.inA h) (fun hIn => ?_)
  refine j_aload_n B dX2_check_0 0 rfl rfl ?_
  refine j_iload_n B dX2_check_1 1 rfl rfl ?_
  refine j_xVr B 1 [.int d] ht (WdC' := pgR D cD cC A σ n ad)  (c_X2_findDisk l hl D cD cC cI cZ cL A σ n ad hI d) rfl (fun H h => pgR.x h) q_245 q_247 q_p2 q_1 q_248 hdX2_findDisk rfl ⟨Nat.le_of_ble_eq_true rfl, Nat.le_of_ble_eq_true rfl⟩ (Nat.le_of_ble_eq_true rfl) dX2_check_2 rfl ⟨Nat.le_of_ble_eq_true rfl, Nat.le_of_ble_eq_true rfl⟩ (Nat.le_of_ble_eq_true rfl) (Nat.le_of_ble_eq_true rfl) (fun k h => by obtain ⟨rfl, h9⟩ := h; simp only [sp_check]; grind) (fun H h => h) (fun r1 hp2 => ?_)
  obtain ⟨rfl, hD3⟩ := hp2
  have hj4 := (pgIsD.at hI hD3).1
  refine j_astore B (L' := [(4, .ref (ad (13 + ix d))), (0, .ref (ad 0)), (1, .int d), (2, .int w), (3, .int g)]) dX2_check_5 (by decide) rfl ?_
  refine j_iload_n B dX2_check_7 3 rfl rfl ?_
  refine j_xSv B 1 [.int w] ht (S := Unit) (WdC' := fun _ => pgR D cD cC A σ n ad)  (c_X2_requireKeeper l hl D cD cC cI cZ cL A σ n ad w) q_83 q_84 q_1 q_85 hdX2_requireKeeper rfl ⟨Nat.le_of_ble_eq_true rfl, Nat.le_of_ble_eq_true rfl⟩ (Nat.le_of_ble_eq_true rfl) dX2_check_8 rfl ⟨Nat.le_of_ble_eq_true rfl, Nat.le_of_ble_eq_true rfl⟩ (Nat.le_of_ble_eq_true rfl) (Nat.le_of_ble_eq_true rfl) (fun k h => by obtain ⟨rfl, h9⟩ := h; simp only [sp_check]; grind) (fun H h => h) (fun u5 hp6 => ?_)
  refine j_aload B dX2_check_11 0 rfl ?_
  refine j_get B (v := .int (σ 4 (ix d))) pgX1 rfl (fun H h => pgR.dk h hj4) 6 (by decide) q_205 rfl rfl dX2_check_13 ?_
  refine j_iconst B (v := 1) dX2_check_16 (by decide) ?_
  refine j_icmp_ne B 39 dX2_check_17 (by decide) (fun h7 => ?_) (fun h7 => ?_)
  · refine j_aload B dX2_check_39 0 rfl ?_
    refine j_xSv B 1 [.ref (ad (13 + ix d))] ht (S := Unit) (WdC' := fun _ => pgR D cD cC A σ n ad)  (c_X2_requireWithinReach l hl D cD cC cI cZ cL A σ n ad (ix d) hj4 hI.2.2.1) q_352 q_353 q_1 q_354 hdX2_requireWithinReach rfl ⟨Nat.le_of_ble_eq_true rfl, Nat.le_of_ble_eq_true rfl⟩ (Nat.le_of_ble_eq_true rfl) dX2_check_41 rfl ⟨Nat.le_of_ble_eq_true rfl, Nat.le_of_ble_eq_true rfl⟩ (Nat.le_of_ble_eq_true rfl) (Nat.le_of_ble_eq_true rfl) (fun k h => by obtain ⟨rfl, h9⟩ := h; simp only [sp_check]; grind) (fun H h => h) (fun u8 hp9 => ?_)
    refine j_aload B dX2_check_44 0 rfl ?_
    refine j_get B (v := .int (σ 4 (ix d))) pgX1 rfl (fun H h => pgR.dk h hj4) 6 (by decide) q_205 rfl rfl dX2_check_46 ?_
    refine j_iconst B (v := 1) dX2_check_49 (by decide) ?_
    refine j_icmp_eq B 63 dX2_check_50 (by decide) (fun h10 => ?_) (fun h10 => ?_)
    · refine j_aload B dX2_check_63 0 rfl ?_
      refine j_iload_n B dX2_check_65 4 rfl rfl ?_
      refine j_put B (Wd' := pgR D cD cC A (pgU σ 8 (ix d) g) n ad) pgX1 tyX1 tyX1_ok nmX1 rfl (fun H h => pgR.dk h hj4) 8 (by decide) q_209 rfl rfl rfl (by rcases hg with rfl | rfl <;> rfl) (by rcases hg with rfl | rfl <;> rfl) (Nat.le_of_ble_eq_true rfl) dX2_check_66 (hIn (13 + ix d) (by omega)) (fun H H1 h hc hz ho => pgR.putD h hj4 (by decide) pgDs8 hc ho) ?_
      refine j_iload_n B dX2_check_69 4 rfl rfl ?_
      refine j_if_ne B 79 dX2_check_70 (by decide) (fun h11 => ?_) (fun h11 => ?_)
      · refine j_aload B dX2_check_79 0 rfl ?_
        refine j_get B (v := .int (σ 4 (ix d))) pgX1 rfl (fun H h => pgR.dk h hj4) 6 (by decide) q_205 rfl rfl dX2_check_81 ?_
        have e9 : sp_check σ d w g = (0, σ 4 (ix d), pgU σ 8 (ix d) g) := by
          have q9 : σ 4 (ix d) = 1 → pgU (pgU σ 8 (ix d) g) 4 (ix d) 1 = pgU σ 8 (ix d) g := fun z => pgU_same z
          simp only [sp_check, pgU_self]; grind
        exact j_x (j_iret B hr rfl dX2_check_84 (Nat.le_of_ble_eq_true rfl) (Nat.le_of_ble_eq_true rfl) () ⟨by rw [e9], by rw [e9]⟩ (fun H h => pgR.eq h (by rw [e9])))
      · refine j_aload B dX2_check_73 0 rfl ?_
        refine j_iconst B (v := 2) dX2_check_75 (by decide) ?_
        refine j_put B (Wd' := pgR D cD cC A (pgU (pgU σ 8 (ix d) g) 4 (ix d) 2) n ad) pgX1 tyX1 tyX1_ok nmX1 rfl (fun H h => pgR.dk h hj4) 6 (by decide) q_205 rfl rfl rfl rfl rfl (Nat.le_of_ble_eq_true rfl) dX2_check_76 (hIn (13 + ix d) (by omega)) (fun H H1 h hc hz ho => pgR.putD h hj4 (by decide) pgDs6 hc ho) ?_
        refine j_aload B dX2_check_79 0 rfl ?_
        refine j_get B (v := .int 2) pgX1 rfl (fun H h => pgR.dk h hj4) 6 (by decide) q_205 rfl (by simp [pgU]) dX2_check_81 ?_
        have e9 : sp_check σ d w g = (0, 2, pgU (pgU σ 8 (ix d) g) 4 (ix d) 2) := by
          have q9 : σ 4 (ix d) = 1 → pgU (pgU σ 8 (ix d) g) 4 (ix d) 1 = pgU σ 8 (ix d) g := fun z => pgU_same z
          simp only [sp_check, pgU_self]; grind
        exact j_x (j_iret B hr rfl dX2_check_84 (Nat.le_of_ble_eq_true rfl) (Nat.le_of_ble_eq_true rfl) () ⟨by rw [e9], by rw [e9]⟩ (fun H h => pgR.eq h (by rw [e9])))
    · exact j_throw (k := 3) pgTS pgTS2 pgTS3 rfl q_173 q_8 rfl B hl ht (is := 151) (text := "the disk is not wiped") (by decide) dX2_check_53 dX2_check_56 dX2_check_57 dX2_check_59 dX2_check_62 (Nat.le_of_ble_eq_true rfl) (Nat.le_of_ble_eq_true rfl) (Nat.le_of_ble_eq_true rfl) (Nat.le_of_ble_eq_true rfl) (Nat.le_of_ble_eq_true rfl) (Nat.le_of_ble_eq_true rfl) (by simp only [sp_check]; grind) (fun H H1 h hq => pgR.more h hq)
  · refine j_iload_n B dX2_check_20 3 rfl rfl ?_
    refine j_aload B dX2_check_21 0 rfl ?_
    refine j_get B (v := .int (σ 7 (ix d))) pgX1 rfl (fun H h => pgR.dk h hj4) 7 (by decide) q_207 rfl rfl dX2_check_23 ?_
    refine j_icmp_ne B 39 dX2_check_26 (by decide) (fun h12 => ?_) (fun h12 => ?_)
    · refine j_aload B dX2_check_39 0 rfl ?_
      refine j_xSv B 1 [.ref (ad (13 + ix d))] ht (S := Unit) (WdC' := fun _ => pgR D cD cC A σ n ad)  (c_X2_requireWithinReach l hl D cD cC cI cZ cL A σ n ad (ix d) hj4 hI.2.2.1) q_352 q_353 q_1 q_354 hdX2_requireWithinReach rfl ⟨Nat.le_of_ble_eq_true rfl, Nat.le_of_ble_eq_true rfl⟩ (Nat.le_of_ble_eq_true rfl) dX2_check_41 rfl ⟨Nat.le_of_ble_eq_true rfl, Nat.le_of_ble_eq_true rfl⟩ (Nat.le_of_ble_eq_true rfl) (Nat.le_of_ble_eq_true rfl) (fun k h => by obtain ⟨rfl, h9⟩ := h; simp only [sp_check]; grind) (fun H h => h) (fun u13 hp14 => ?_)
      refine j_aload B dX2_check_44 0 rfl ?_
      refine j_get B (v := .int (σ 4 (ix d))) pgX1 rfl (fun H h => pgR.dk h hj4) 6 (by decide) q_205 rfl rfl dX2_check_46 ?_
      refine j_iconst B (v := 1) dX2_check_49 (by decide) ?_
      refine j_icmp_eq B 63 dX2_check_50 (by decide) (fun h15 => ?_) (fun h15 => ?_)
      · refine j_aload B dX2_check_63 0 rfl ?_
        refine j_iload_n B dX2_check_65 4 rfl rfl ?_
        refine j_put B (Wd' := pgR D cD cC A (pgU σ 8 (ix d) g) n ad) pgX1 tyX1 tyX1_ok nmX1 rfl (fun H h => pgR.dk h hj4) 8 (by decide) q_209 rfl rfl rfl (by rcases hg with rfl | rfl <;> rfl) (by rcases hg with rfl | rfl <;> rfl) (Nat.le_of_ble_eq_true rfl) dX2_check_66 (hIn (13 + ix d) (by omega)) (fun H H1 h hc hz ho => pgR.putD h hj4 (by decide) pgDs8 hc ho) ?_
        refine j_iload_n B dX2_check_69 4 rfl rfl ?_
        refine j_if_ne B 79 dX2_check_70 (by decide) (fun h16 => ?_) (fun h16 => ?_)
        · refine j_aload B dX2_check_79 0 rfl ?_
          refine j_get B (v := .int (σ 4 (ix d))) pgX1 rfl (fun H h => pgR.dk h hj4) 6 (by decide) q_205 rfl rfl dX2_check_81 ?_
          have e9 : sp_check σ d w g = (0, σ 4 (ix d), pgU σ 8 (ix d) g) := by
            have q9 : σ 4 (ix d) = 1 → pgU (pgU σ 8 (ix d) g) 4 (ix d) 1 = pgU σ 8 (ix d) g := fun z => pgU_same z
            simp only [sp_check, pgU_self]; grind
          exact j_x (j_iret B hr rfl dX2_check_84 (Nat.le_of_ble_eq_true rfl) (Nat.le_of_ble_eq_true rfl) () ⟨by rw [e9], by rw [e9]⟩ (fun H h => pgR.eq h (by rw [e9])))
        · refine j_aload B dX2_check_73 0 rfl ?_
          refine j_iconst B (v := 2) dX2_check_75 (by decide) ?_
          refine j_put B (Wd' := pgR D cD cC A (pgU (pgU σ 8 (ix d) g) 4 (ix d) 2) n ad) pgX1 tyX1 tyX1_ok nmX1 rfl (fun H h => pgR.dk h hj4) 6 (by decide) q_205 rfl rfl rfl rfl rfl (Nat.le_of_ble_eq_true rfl) dX2_check_76 (hIn (13 + ix d) (by omega)) (fun H H1 h hc hz ho => pgR.putD h hj4 (by decide) pgDs6 hc ho) ?_
          refine j_aload B dX2_check_79 0 rfl ?_
          refine j_get B (v := .int 2) pgX1 rfl (fun H h => pgR.dk h hj4) 6 (by decide) q_205 rfl (by simp [pgU]) dX2_check_81 ?_
          have e9 : sp_check σ d w g = (0, 2, pgU (pgU σ 8 (ix d) g) 4 (ix d) 2) := by
            have q9 : σ 4 (ix d) = 1 → pgU (pgU σ 8 (ix d) g) 4 (ix d) 1 = pgU σ 8 (ix d) g := fun z => pgU_same z
            simp only [sp_check, pgU_self]; grind
          exact j_x (j_iret B hr rfl dX2_check_84 (Nat.le_of_ble_eq_true rfl) (Nat.le_of_ble_eq_true rfl) () ⟨by rw [e9], by rw [e9]⟩ (fun H h => pgR.eq h (by rw [e9])))
      · exact j_throw (k := 3) pgTS pgTS2 pgTS3 rfl q_173 q_8 rfl B hl ht (is := 151) (text := "the disk is not wiped") (by decide) dX2_check_53 dX2_check_56 dX2_check_57 dX2_check_59 dX2_check_62 (Nat.le_of_ble_eq_true rfl) (Nat.le_of_ble_eq_true rfl) (Nat.le_of_ble_eq_true rfl) (Nat.le_of_ble_eq_true rfl) (Nat.le_of_ble_eq_true rfl) (Nat.le_of_ble_eq_true rfl) (by simp only [sp_check]; grind) (fun H H1 h hq => pgR.more h hq)
    · exact j_throw (k := 2) pgTA pgTA2 pgTA3 rfl q_157 q_7 rfl B hl ht (is := 149) (text := "the witness wiped the disk") (by decide) dX2_check_29 dX2_check_32 dX2_check_33 dX2_check_35 dX2_check_38 (Nat.le_of_ble_eq_true rfl) (Nat.le_of_ble_eq_true rfl) (Nat.le_of_ble_eq_true rfl) (Nat.le_of_ble_eq_true rfl) (Nat.le_of_ble_eq_true rfl) (Nat.le_of_ble_eq_true rfl) (by simp only [sp_check]; grind) (fun H H1 h hq => pgR.more h hq)
set_option maxHeartbeats 4000000 in
set_option maxRecDepth 100000 in
/-- lose -/
theorem c_X2_lose (l : Launch) (hl : l.stackTraces = false) (D : va_G) (cD cC cI cZ cL : ClassId) (A : Nat → Prop) (σ : pgSt) (n : Nat) (ad : Nat → Nat) (hI : pgI n σ) (d : Int32) : vx_Met l yX2_lose (.code yX2_lose cX2_lose 3 (some .int) :: pgWd) ({ frames := 7, cells := 2, slots := 12, locals := 104 } : Room) (pgPc D (pgTys cD cC cI cZ cL) A (pgR D cD cC A σ n ad) [.ref (ad 0), .int d]) (va_Qi (fun (r : Int32) (_ : Unit) => (sp_lose σ d).1 = 0 ∧ r = (sp_lose σ d).2.1) (fun _ t9 => pgR D cD cC A ((sp_lose σ d).2.2) n ad t9.heap) A) (pgX A (fun k => (sp_lose σ d).1 = k ∧ k ≠ 0) (pgR D cD cC A σ n ad)) 2 12 A := by
  refine pg_enterX (own := RX2) (by decide) rfl (Nat.le_of_ble_eq_true rfl) (fun p e s m below meth cc9 B hr hnm ht => ?_)
  refine j_fact (fun H h => pgR.inA h) (fun hIn => ?_)
  refine j_aload_n B dX2_lose_0 0 rfl rfl ?_
  refine j_iload_n B dX2_lose_1 1 rfl rfl ?_
  refine j_xVr B 1 [.int d] ht (WdC' := pgR D cD cC A σ n ad)  (c_X2_findDisk l hl D cD cC cI cZ cL A σ n ad hI d) rfl (fun H h => pgR.x h) q_245 q_247 q_p2 q_1 q_248 hdX2_findDisk rfl ⟨Nat.le_of_ble_eq_true rfl, Nat.le_of_ble_eq_true rfl⟩ (Nat.le_of_ble_eq_true rfl) dX2_lose_2 rfl ⟨Nat.le_of_ble_eq_true rfl, Nat.le_of_ble_eq_true rfl⟩ (Nat.le_of_ble_eq_true rfl) (Nat.le_of_ble_eq_true rfl) (fun k h => by obtain ⟨rfl, h9⟩ := h; simp only [sp_lose]; grind) (fun H h => h) (fun r1 hp2 => ?_)
  obtain ⟨rfl, hD3⟩ := hp2
  have hj4 := (pgIsD.at hI hD3).1
  refine j_astore_n B (L' := [(2, .ref (ad (13 + ix d))), (0, .ref (ad 0)), (1, .int d)]) dX2_lose_5 rfl (by decide) rfl ?_
  refine j_aload_n B dX2_lose_6 0 rfl rfl ?_
  refine j_get B (v := .int (σ 5 (ix d))) pgX1 rfl (fun H h => pgR.dk h hj4) 9 (by decide) q_210 rfl rfl dX2_lose_7 ?_
  refine j_if_eq B 23 dX2_lose_10 (by decide) (fun h5 => ?_) (fun h5 => ?_)
  · refine j_aload_n B dX2_lose_23 0 rfl rfl ?_
    refine j_iconst B (v := 1) dX2_lose_24 (by decide) ?_
    refine j_put B (Wd' := pgR D cD cC A (pgU σ 5 (ix d) 1) n ad) pgX1 tyX1 tyX1_ok nmX1 rfl (fun H h => pgR.dk h hj4) 9 (by decide) q_210 rfl rfl rfl rfl rfl (Nat.le_of_ble_eq_true rfl) dX2_lose_25 (hIn (13 + ix d) (by omega)) (fun H H1 h hc hz ho => pgR.putD h hj4 (by decide) pgDs9 hc ho) ?_
    refine j_aload_n B dX2_lose_28 0 rfl rfl ?_
    refine j_iconst B (v := (-1)) dX2_lose_29 (by decide) ?_
    refine j_put B (Wd' := pgR D cD cC A (pgU (pgU σ 5 (ix d) 1) 6 (ix d) (-1)) n ad) pgX1 tyX1 tyX1_ok nmX1 rfl (fun H h => pgR.dk h hj4) 5 (by decide) q_203 rfl rfl rfl rfl rfl (Nat.le_of_ble_eq_true rfl) dX2_lose_30 (hIn (13 + ix d) (by omega)) (fun H H1 h hc hz ho => pgR.putD h hj4 (by decide) pgDs5 hc ho) ?_
    refine j_aload_n B dX2_lose_33 0 rfl rfl ?_
    refine j_get B (v := .int (σ 2 (ix d))) pgX1 rfl (fun H h => pgR.dk h hj4) 2 (by decide) q_198 rfl rfl dX2_lose_34 ?_
    have e9 : sp_lose σ d = (0, σ 2 (ix d), pgU (pgU σ 5 (ix d) 1) 6 (ix d) (-1)) := by
      simp only [sp_lose]; grind
    exact j_x (j_iret B hr rfl dX2_lose_37 (Nat.le_of_ble_eq_true rfl) (Nat.le_of_ble_eq_true rfl) () ⟨by rw [e9], by rw [e9]⟩ (fun H h => pgR.eq h (by rw [e9])))
  · exact j_throw (k := 3) pgTS pgTS2 pgTS3 rfl q_173 q_8 rfl B hl ht (is := 153) (text := "the disk is missing") (by decide) dX2_lose_13 dX2_lose_16 dX2_lose_17 dX2_lose_19 dX2_lose_22 (Nat.le_of_ble_eq_true rfl) (Nat.le_of_ble_eq_true rfl) (Nat.le_of_ble_eq_true rfl) (Nat.le_of_ble_eq_true rfl) (Nat.le_of_ble_eq_true rfl) (Nat.le_of_ble_eq_true rfl) (by simp only [sp_lose]; grind) (fun H H1 h hq => pgR.more h hq)
set_option maxHeartbeats 4000000 in
set_option maxRecDepth 100000 in
/-- find -/
theorem c_X2_find (l : Launch) (hl : l.stackTraces = false) (D : va_G) (cD cC cI cZ cL : ClassId) (A : Nat → Prop) (σ : pgSt) (n : Nat) (ad : Nat → Nat) (hI : pgI n σ) (d : Int32) : vx_Met l yX2_find (.code yX2_find cX2_find 3 (some .int) :: pgWd) ({ frames := 7, cells := 2, slots := 12, locals := 104 } : Room) (pgPc D (pgTys cD cC cI cZ cL) A (pgR D cD cC A σ n ad) [.ref (ad 0), .int d]) (va_Qi (fun (r : Int32) (_ : Unit) => (sp_find σ d).1 = 0 ∧ r = (sp_find σ d).2.1) (fun _ t9 => pgR D cD cC A ((sp_find σ d).2.2) n ad t9.heap) A) (pgX A (fun k => (sp_find σ d).1 = k ∧ k ≠ 0) (pgR D cD cC A σ n ad)) 2 12 A := by
  refine pg_enterX (own := RX2) (by decide) rfl (Nat.le_of_ble_eq_true rfl) (fun p e s m below meth cc9 B hr hnm ht => ?_)
  refine j_fact (fun H h => pgR.inA h) (fun hIn => ?_)
  refine j_aload_n B dX2_find_0 0 rfl rfl ?_
  refine j_iload_n B dX2_find_1 1 rfl rfl ?_
  refine j_xVr B 1 [.int d] ht (WdC' := pgR D cD cC A σ n ad)  (c_X2_findDisk l hl D cD cC cI cZ cL A σ n ad hI d) rfl (fun H h => pgR.x h) q_245 q_247 q_p2 q_1 q_248 hdX2_findDisk rfl ⟨Nat.le_of_ble_eq_true rfl, Nat.le_of_ble_eq_true rfl⟩ (Nat.le_of_ble_eq_true rfl) dX2_find_2 rfl ⟨Nat.le_of_ble_eq_true rfl, Nat.le_of_ble_eq_true rfl⟩ (Nat.le_of_ble_eq_true rfl) (Nat.le_of_ble_eq_true rfl) (fun k h => by obtain ⟨rfl, h9⟩ := h; simp only [sp_find]; grind) (fun H h => h) (fun r1 hp2 => ?_)
  obtain ⟨rfl, hD3⟩ := hp2
  have hj4 := (pgIsD.at hI hD3).1
  refine j_astore_n B (L' := [(2, .ref (ad (13 + ix d))), (0, .ref (ad 0)), (1, .int d)]) dX2_find_5 rfl (by decide) rfl ?_
  refine j_aload_n B dX2_find_6 0 rfl rfl ?_
  refine j_get B (v := .int (σ 5 (ix d))) pgX1 rfl (fun H h => pgR.dk h hj4) 9 (by decide) q_210 rfl rfl dX2_find_7 ?_
  refine j_if_ne B 23 dX2_find_10 (by decide) (fun h5 => ?_) (fun h5 => ?_)
  · refine j_aload_n B dX2_find_23 0 rfl rfl ?_
    refine j_iconst B (v := 0) dX2_find_24 (by decide) ?_
    refine j_put B (Wd' := pgR D cD cC A (pgU σ 5 (ix d) 0) n ad) pgX1 tyX1 tyX1_ok nmX1 rfl (fun H h => pgR.dk h hj4) 9 (by decide) q_210 rfl rfl rfl rfl rfl (Nat.le_of_ble_eq_true rfl) dX2_find_25 (hIn (13 + ix d) (by omega)) (fun H H1 h hc hz ho => pgR.putD h hj4 (by decide) pgDs9 hc ho) ?_
    refine j_aload_n B dX2_find_28 0 rfl rfl ?_
    refine j_cVi B (S := Unit) 0 [] (WdC' := fun _ => pgR D cD cC A (pgU σ 5 (ix d) 0) n ad) (fun _ => pgR D cD cC A (pgU σ 5 (ix d) 0) n ad) (c_X1_crateNumber l D cD cC cI cZ cL A (pgU σ 5 (ix d) 0) n ad (ix d) hj4 (pgCr_ne (by decide) hI.2.2.1)) rfl (fun H h => pgR.dk h hj4) q_258 q_259 q_260 q_9 q_261 hdX1_crateNumber rfl ⟨Nat.le_of_ble_eq_true rfl, Nat.le_of_ble_eq_true rfl⟩ (Nat.le_of_ble_eq_true rfl) dX2_find_29 rfl ⟨Nat.le_of_ble_eq_true rfl, Nat.le_of_ble_eq_true rfl⟩ (fun _ h => h) (fun _ _ _ _ h => h) (fun _ h => h) (fun _ _ _ _ h _ _ => h) (fun r6 _ hp7 => ?_)
    obtain rfl : r6 = σ 3 (ix d) := hp7
    have e9 : sp_find σ d = (0, σ 3 (ix d), pgU σ 5 (ix d) 0) := by
      simp only [sp_find]; grind
    exact j_x (j_iret B hr rfl dX2_find_32 (Nat.le_of_ble_eq_true rfl) (Nat.le_of_ble_eq_true rfl) () ⟨by rw [e9], by rw [e9]⟩ (fun H h => pgR.eq h (by rw [e9])))
  · exact j_throw (k := 3) pgTS pgTS2 pgTS3 rfl q_173 q_8 rfl B hl ht (is := 155) (text := "the disk is not missing") (by decide) dX2_find_13 dX2_find_16 dX2_find_17 dX2_find_19 dX2_find_22 (Nat.le_of_ble_eq_true rfl) (Nat.le_of_ble_eq_true rfl) (Nat.le_of_ble_eq_true rfl) (Nat.le_of_ble_eq_true rfl) (Nat.le_of_ble_eq_true rfl) (Nat.le_of_ble_eq_true rfl) (by simp only [sp_find]; grind) (fun H H1 h hq => pgR.more h hq)
set_option maxHeartbeats 4000000 in
set_option maxRecDepth 100000 in
/-- keeperOf -/
theorem c_X2_keeperOf (l : Launch) (hl : l.stackTraces = false) (D : va_G) (cD cC cI cZ cL : ClassId) (A : Nat → Prop) (σ : pgSt) (n : Nat) (ad : Nat → Nat) (hI : pgI n σ) (d : Int32) : vx_Met l yX2_keeperOf (.code yX2_keeperOf cX2_keeperOf 2 (some .int) :: pgWd) ({ frames := 7, cells := 1, slots := 6, locals := 104 } : Room) (pgPc D (pgTys cD cC cI cZ cL) A (pgR D cD cC A σ n ad) [.ref (ad 0), .int d]) (va_Qi (fun (r : Int32) (_ : Unit) => (sp_askD σ d 2).1 = 0 ∧ r = (sp_askD σ d 2).2.1) (fun _ t9 => pgR D cD cC A ((sp_askD σ d 2).2.2) n ad t9.heap) A) (pgX A (fun k => (sp_askD σ d 2).1 = k ∧ k ≠ 0) (pgR D cD cC A σ n ad)) 1 6 A := by
  refine pg_enterX (own := RX2) (by decide) rfl (Nat.le_of_ble_eq_true rfl) (fun p e s m below meth cc9 B hr hnm ht => ?_)
  refine j_fact (fun H h => pgR.inA h) (fun hIn => ?_)
  refine j_aload_n B dX2_keeperOf_0 0 rfl rfl ?_
  refine j_iload_n B dX2_keeperOf_1 1 rfl rfl ?_
  refine j_xVr B 1 [.int d] ht (WdC' := pgR D cD cC A σ n ad)  (c_X2_findDisk l hl D cD cC cI cZ cL A σ n ad hI d) rfl (fun H h => pgR.x h) q_245 q_247 q_p2 q_1 q_248 hdX2_findDisk rfl ⟨Nat.le_of_ble_eq_true rfl, Nat.le_of_ble_eq_true rfl⟩ (Nat.le_of_ble_eq_true rfl) dX2_keeperOf_2 rfl ⟨Nat.le_of_ble_eq_true rfl, Nat.le_of_ble_eq_true rfl⟩ (Nat.le_of_ble_eq_true rfl) (Nat.le_of_ble_eq_true rfl) (fun k h => by obtain ⟨rfl, h9⟩ := h; simp only [sp_askD]; grind) (fun H h => h) (fun r1 hp2 => ?_)
  obtain ⟨rfl, hD3⟩ := hp2
  have hj4 := (pgIsD.at hI hD3).1
  refine j_get B (v := .int (σ 2 (ix d))) pgX1 rfl (fun H h => pgR.dk h hj4) 2 (by decide) q_198 rfl rfl dX2_keeperOf_5 ?_
  have e9 : sp_askD σ d 2 = (0, σ 2 (ix d), σ) := by
    simp only [sp_askD]; grind
  exact j_x (j_iret B hr rfl dX2_keeperOf_8 (Nat.le_of_ble_eq_true rfl) (Nat.le_of_ble_eq_true rfl) () ⟨by rw [e9], by rw [e9]⟩ (fun H h => pgR.eq h (by rw [e9])))
set_option maxHeartbeats 4000000 in
set_option maxRecDepth 100000 in
/-- keeperByLog -/
theorem c_X2_keeperByLog (l : Launch) (hl : l.stackTraces = false) (D : va_G) (cD cC cI cZ cL : ClassId) (A : Nat → Prop) (σ : pgSt) (n : Nat) (ad : Nat → Nat) (hI : pgI n σ) (d : Int32) : vx_Met l yX2_keeperByLog (.code yX2_keeperByLog cX2_keeperByLog 2 (some .int) :: pgWd) ({ frames := 7, cells := 1, slots := 6, locals := 104 } : Room) (pgPc D (pgTys cD cC cI cZ cL) A (pgR D cD cC A σ n ad) [.ref (ad 0), .int d]) (va_Qi (fun (r : Int32) (_ : Unit) => (sp_askD σ d 14).1 = 0 ∧ r = (sp_askD σ d 14).2.1) (fun _ t9 => pgR D cD cC A ((sp_askD σ d 14).2.2) n ad t9.heap) A) (pgX A (fun k => (sp_askD σ d 14).1 = k ∧ k ≠ 0) (pgR D cD cC A σ n ad)) 1 6 A := by
  refine pg_enterX (own := RX2) (by decide) rfl (Nat.le_of_ble_eq_true rfl) (fun p e s m below meth cc9 B hr hnm ht => ?_)
  refine j_fact (fun H h => pgR.inA h) (fun hIn => ?_)
  refine j_aload_n B dX2_keeperByLog_0 0 rfl rfl ?_
  refine j_iload_n B dX2_keeperByLog_1 1 rfl rfl ?_
  refine j_xVr B 1 [.int d] ht (WdC' := pgR D cD cC A σ n ad)  (c_X2_findDisk l hl D cD cC cI cZ cL A σ n ad hI d) rfl (fun H h => pgR.x h) q_245 q_247 q_p2 q_1 q_248 hdX2_findDisk rfl ⟨Nat.le_of_ble_eq_true rfl, Nat.le_of_ble_eq_true rfl⟩ (Nat.le_of_ble_eq_true rfl) dX2_keeperByLog_2 rfl ⟨Nat.le_of_ble_eq_true rfl, Nat.le_of_ble_eq_true rfl⟩ (Nat.le_of_ble_eq_true rfl) (Nat.le_of_ble_eq_true rfl) (fun k h => by obtain ⟨rfl, h9⟩ := h; simp only [sp_askD]; grind) (fun H h => h) (fun r1 hp2 => ?_)
  obtain ⟨rfl, hD3⟩ := hp2
  have hj4 := (pgIsD.at hI hD3).1
  refine j_get B (v := .int (σ 14 (ix d))) pgX1 rfl (fun H h => pgR.dk h hj4) 3 (by decide) q_199 rfl rfl dX2_keeperByLog_5 ?_
  have e9 : sp_askD σ d 14 = (0, σ 14 (ix d), σ) := by
    simp only [sp_askD]; grind
  exact j_x (j_iret B hr rfl dX2_keeperByLog_8 (Nat.le_of_ble_eq_true rfl) (Nat.le_of_ble_eq_true rfl) () ⟨by rw [e9], by rw [e9]⟩ (fun H h => pgR.eq h (by rw [e9])))
set_option maxHeartbeats 4000000 in
set_option maxRecDepth 100000 in
/-- crateOf -/
theorem c_X2_crateOf (l : Launch) (hl : l.stackTraces = false) (D : va_G) (cD cC cI cZ cL : ClassId) (A : Nat → Prop) (σ : pgSt) (n : Nat) (ad : Nat → Nat) (hI : pgI n σ) (d : Int32) : vx_Met l yX2_crateOf (.code yX2_crateOf cX2_crateOf 2 (some .int) :: pgWd) ({ frames := 7, cells := 1, slots := 6, locals := 104 } : Room) (pgPc D (pgTys cD cC cI cZ cL) A (pgR D cD cC A σ n ad) [.ref (ad 0), .int d]) (va_Qi (fun (r : Int32) (_ : Unit) => (sp_askD σ d 3).1 = 0 ∧ r = (sp_askD σ d 3).2.1) (fun _ t9 => pgR D cD cC A ((sp_askD σ d 3).2.2) n ad t9.heap) A) (pgX A (fun k => (sp_askD σ d 3).1 = k ∧ k ≠ 0) (pgR D cD cC A σ n ad)) 1 6 A := by
  refine pg_enterX (own := RX2) (by decide) rfl (Nat.le_of_ble_eq_true rfl) (fun p e s m below meth cc9 B hr hnm ht => ?_)
  refine j_fact (fun H h => pgR.inA h) (fun hIn => ?_)
  refine j_aload_n B dX2_crateOf_0 0 rfl rfl ?_
  refine j_iload_n B dX2_crateOf_1 1 rfl rfl ?_
  refine j_xVr B 1 [.int d] ht (WdC' := pgR D cD cC A σ n ad)  (c_X2_findDisk l hl D cD cC cI cZ cL A σ n ad hI d) rfl (fun H h => pgR.x h) q_245 q_247 q_p2 q_1 q_248 hdX2_findDisk rfl ⟨Nat.le_of_ble_eq_true rfl, Nat.le_of_ble_eq_true rfl⟩ (Nat.le_of_ble_eq_true rfl) dX2_crateOf_2 rfl ⟨Nat.le_of_ble_eq_true rfl, Nat.le_of_ble_eq_true rfl⟩ (Nat.le_of_ble_eq_true rfl) (Nat.le_of_ble_eq_true rfl) (fun k h => by obtain ⟨rfl, h9⟩ := h; simp only [sp_askD]; grind) (fun H h => h) (fun r1 hp2 => ?_)
  obtain ⟨rfl, hD3⟩ := hp2
  have hj4 := (pgIsD.at hI hD3).1
  refine j_cVi B (S := Unit) 0 [] (WdC' := fun _ => pgR D cD cC A σ n ad) (fun _ => pgR D cD cC A σ n ad) (c_X1_crateNumber l D cD cC cI cZ cL A σ n ad (ix d) hj4 hI.2.2.1) rfl (fun H h => pgR.dk h hj4) q_258 q_259 q_260 q_9 q_261 hdX1_crateNumber rfl ⟨Nat.le_of_ble_eq_true rfl, Nat.le_of_ble_eq_true rfl⟩ (Nat.le_of_ble_eq_true rfl) dX2_crateOf_5 rfl ⟨Nat.le_of_ble_eq_true rfl, Nat.le_of_ble_eq_true rfl⟩ (fun _ h => h) (fun _ _ _ _ h => h) (fun _ h => h) (fun _ _ _ _ h _ _ => h) (fun r5 _ hp6 => ?_)
  obtain rfl : r5 = σ 3 (ix d) := hp6
  have e9 : sp_askD σ d 3 = (0, σ 3 (ix d), σ) := by
    simp only [sp_askD]; grind
  exact j_x (j_iret B hr rfl dX2_crateOf_8 (Nat.le_of_ble_eq_true rfl) (Nat.le_of_ble_eq_true rfl) () ⟨by rw [e9], by rw [e9]⟩ (fun H h => pgR.eq h (by rw [e9])))
set_option maxHeartbeats 4000000 in
set_option maxRecDepth 100000 in
/-- stateOf -/
theorem c_X2_stateOf (l : Launch) (hl : l.stackTraces = false) (D : va_G) (cD cC cI cZ cL : ClassId) (A : Nat → Prop) (σ : pgSt) (n : Nat) (ad : Nat → Nat) (hI : pgI n σ) (d : Int32) : vx_Met l yX2_stateOf (.code yX2_stateOf cX2_stateOf 2 (some .int) :: pgWd) ({ frames := 7, cells := 1, slots := 6, locals := 104 } : Room) (pgPc D (pgTys cD cC cI cZ cL) A (pgR D cD cC A σ n ad) [.ref (ad 0), .int d]) (va_Qi (fun (r : Int32) (_ : Unit) => (sp_askD σ d 4).1 = 0 ∧ r = (sp_askD σ d 4).2.1) (fun _ t9 => pgR D cD cC A ((sp_askD σ d 4).2.2) n ad t9.heap) A) (pgX A (fun k => (sp_askD σ d 4).1 = k ∧ k ≠ 0) (pgR D cD cC A σ n ad)) 1 6 A := by
  refine pg_enterX (own := RX2) (by decide) rfl (Nat.le_of_ble_eq_true rfl) (fun p e s m below meth cc9 B hr hnm ht => ?_)
  refine j_fact (fun H h => pgR.inA h) (fun hIn => ?_)
  refine j_aload_n B dX2_stateOf_0 0 rfl rfl ?_
  refine j_iload_n B dX2_stateOf_1 1 rfl rfl ?_
  refine j_xVr B 1 [.int d] ht (WdC' := pgR D cD cC A σ n ad)  (c_X2_findDisk l hl D cD cC cI cZ cL A σ n ad hI d) rfl (fun H h => pgR.x h) q_245 q_247 q_p2 q_1 q_248 hdX2_findDisk rfl ⟨Nat.le_of_ble_eq_true rfl, Nat.le_of_ble_eq_true rfl⟩ (Nat.le_of_ble_eq_true rfl) dX2_stateOf_2 rfl ⟨Nat.le_of_ble_eq_true rfl, Nat.le_of_ble_eq_true rfl⟩ (Nat.le_of_ble_eq_true rfl) (Nat.le_of_ble_eq_true rfl) (fun k h => by obtain ⟨rfl, h9⟩ := h; simp only [sp_askD]; grind) (fun H h => h) (fun r1 hp2 => ?_)
  obtain ⟨rfl, hD3⟩ := hp2
  have hj4 := (pgIsD.at hI hD3).1
  refine j_get B (v := .int (σ 4 (ix d))) pgX1 rfl (fun H h => pgR.dk h hj4) 6 (by decide) q_205 rfl rfl dX2_stateOf_5 ?_
  have e9 : sp_askD σ d 4 = (0, σ 4 (ix d), σ) := by
    simp only [sp_askD]; grind
  exact j_x (j_iret B hr rfl dX2_stateOf_8 (Nat.le_of_ble_eq_true rfl) (Nat.le_of_ble_eq_true rfl) () ⟨by rw [e9], by rw [e9]⟩ (fun H h => pgR.eq h (by rw [e9])))
set_option maxHeartbeats 4000000 in
set_option maxRecDepth 100000 in
/-- offeredTo -/
theorem c_X2_offeredTo (l : Launch) (hl : l.stackTraces = false) (D : va_G) (cD cC cI cZ cL : ClassId) (A : Nat → Prop) (σ : pgSt) (n : Nat) (ad : Nat → Nat) (hI : pgI n σ) (d : Int32) : vx_Met l yX2_offeredTo (.code yX2_offeredTo cX2_offeredTo 2 (some .int) :: pgWd) ({ frames := 7, cells := 1, slots := 6, locals := 104 } : Room) (pgPc D (pgTys cD cC cI cZ cL) A (pgR D cD cC A σ n ad) [.ref (ad 0), .int d]) (va_Qi (fun (r : Int32) (_ : Unit) => (sp_askD σ d 6).1 = 0 ∧ r = (sp_askD σ d 6).2.1) (fun _ t9 => pgR D cD cC A ((sp_askD σ d 6).2.2) n ad t9.heap) A) (pgX A (fun k => (sp_askD σ d 6).1 = k ∧ k ≠ 0) (pgR D cD cC A σ n ad)) 1 6 A := by
  refine pg_enterX (own := RX2) (by decide) rfl (Nat.le_of_ble_eq_true rfl) (fun p e s m below meth cc9 B hr hnm ht => ?_)
  refine j_fact (fun H h => pgR.inA h) (fun hIn => ?_)
  refine j_aload_n B dX2_offeredTo_0 0 rfl rfl ?_
  refine j_iload_n B dX2_offeredTo_1 1 rfl rfl ?_
  refine j_xVr B 1 [.int d] ht (WdC' := pgR D cD cC A σ n ad)  (c_X2_findDisk l hl D cD cC cI cZ cL A σ n ad hI d) rfl (fun H h => pgR.x h) q_245 q_247 q_p2 q_1 q_248 hdX2_findDisk rfl ⟨Nat.le_of_ble_eq_true rfl, Nat.le_of_ble_eq_true rfl⟩ (Nat.le_of_ble_eq_true rfl) dX2_offeredTo_2 rfl ⟨Nat.le_of_ble_eq_true rfl, Nat.le_of_ble_eq_true rfl⟩ (Nat.le_of_ble_eq_true rfl) (Nat.le_of_ble_eq_true rfl) (fun k h => by obtain ⟨rfl, h9⟩ := h; simp only [sp_askD]; grind) (fun H h => h) (fun r1 hp2 => ?_)
  obtain ⟨rfl, hD3⟩ := hp2
  have hj4 := (pgIsD.at hI hD3).1
  refine j_get B (v := .int (σ 6 (ix d))) pgX1 rfl (fun H h => pgR.dk h hj4) 5 (by decide) q_203 rfl rfl dX2_offeredTo_5 ?_
  have e9 : sp_askD σ d 6 = (0, σ 6 (ix d), σ) := by
    simp only [sp_askD]; grind
  exact j_x (j_iret B hr rfl dX2_offeredTo_8 (Nat.le_of_ble_eq_true rfl) (Nat.le_of_ble_eq_true rfl) () ⟨by rw [e9], by rw [e9]⟩ (fun H h => pgR.eq h (by rw [e9])))
set_option maxHeartbeats 4000000 in
set_option maxRecDepth 100000 in
/-- certificateOf -/
theorem c_X2_certificateOf (l : Launch) (hl : l.stackTraces = false) (D : va_G) (cD cC cI cZ cL : ClassId) (A : Nat → Prop) (σ : pgSt) (n : Nat) (ad : Nat → Nat) (hI : pgI n σ) (d : Int32) : vx_Met l yX2_certificateOf (.code yX2_certificateOf cX2_certificateOf 2 (some .int) :: pgWd) ({ frames := 7, cells := 1, slots := 6, locals := 104 } : Room) (pgPc D (pgTys cD cC cI cZ cL) A (pgR D cD cC A σ n ad) [.ref (ad 0), .int d]) (va_Qi (fun (r : Int32) (_ : Unit) => (sp_askD σ d 9).1 = 0 ∧ r = (sp_askD σ d 9).2.1) (fun _ t9 => pgR D cD cC A ((sp_askD σ d 9).2.2) n ad t9.heap) A) (pgX A (fun k => (sp_askD σ d 9).1 = k ∧ k ≠ 0) (pgR D cD cC A σ n ad)) 1 6 A := by
  refine pg_enterX (own := RX2) (by decide) rfl (Nat.le_of_ble_eq_true rfl) (fun p e s m below meth cc9 B hr hnm ht => ?_)
  refine j_fact (fun H h => pgR.inA h) (fun hIn => ?_)
  refine j_aload_n B dX2_certificateOf_0 0 rfl rfl ?_
  refine j_iload_n B dX2_certificateOf_1 1 rfl rfl ?_
  refine j_xVr B 1 [.int d] ht (WdC' := pgR D cD cC A σ n ad)  (c_X2_findDisk l hl D cD cC cI cZ cL A σ n ad hI d) rfl (fun H h => pgR.x h) q_245 q_247 q_p2 q_1 q_248 hdX2_findDisk rfl ⟨Nat.le_of_ble_eq_true rfl, Nat.le_of_ble_eq_true rfl⟩ (Nat.le_of_ble_eq_true rfl) dX2_certificateOf_2 rfl ⟨Nat.le_of_ble_eq_true rfl, Nat.le_of_ble_eq_true rfl⟩ (Nat.le_of_ble_eq_true rfl) (Nat.le_of_ble_eq_true rfl) (fun k h => by obtain ⟨rfl, h9⟩ := h; simp only [sp_askD]; grind) (fun H h => h) (fun r1 hp2 => ?_)
  obtain ⟨rfl, hD3⟩ := hp2
  have hj4 := (pgIsD.at hI hD3).1
  refine j_get B (v := .int (σ 9 (ix d))) pgX1 rfl (fun H h => pgR.dk h hj4) 10 (by decide) q_213 rfl rfl dX2_certificateOf_5 ?_
  have e9 : sp_askD σ d 9 = (0, σ 9 (ix d), σ) := by
    simp only [sp_askD]; grind
  exact j_x (j_iret B hr rfl dX2_certificateOf_8 (Nat.le_of_ble_eq_true rfl) (Nat.le_of_ble_eq_true rfl) () ⟨by rw [e9], by rw [e9]⟩ (fun H h => pgR.eq h (by rw [e9])))
set_option maxHeartbeats 4000000 in
set_option maxRecDepth 100000 in
/-- isDone -/
theorem c_X2_isDone (l : Launch) (hl : l.stackTraces = false) (D : va_G) (cD cC cI cZ cL : ClassId) (A : Nat → Prop) (σ : pgSt) (n : Nat) (ad : Nat → Nat) (hI : pgI n σ) (d : Int32) : vx_Met l yX2_isDone (.code yX2_isDone cX2_isDone 2 (some .boolean) :: pgWd) ({ frames := 7, cells := 1, slots := 6, locals := 104 } : Room) (pgPc D (pgTys cD cC cI cZ cL) A (pgR D cD cC A σ n ad) [.ref (ad 0), .int d]) (va_Qi (fun (r : Int32) (_ : Unit) => (sp_isDone σ d).1 = 0 ∧ r = (sp_isDone σ d).2.1) (fun _ t9 => pgR D cD cC A ((sp_isDone σ d).2.2) n ad t9.heap) A) (pgX A (fun k => (sp_isDone σ d).1 = k ∧ k ≠ 0) (pgR D cD cC A σ n ad)) 1 6 A := by
  refine pg_enterX (own := RX2) (by decide) rfl (Nat.le_of_ble_eq_true rfl) (fun p e s m below meth cc9 B hr hnm ht => ?_)
  refine j_fact (fun H h => pgR.inA h) (fun hIn => ?_)
  refine j_aload_n B dX2_isDone_0 0 rfl rfl ?_
  refine j_iload_n B dX2_isDone_1 1 rfl rfl ?_
  refine j_xVr B 1 [.int d] ht (WdC' := pgR D cD cC A σ n ad)  (c_X2_findDisk l hl D cD cC cI cZ cL A σ n ad hI d) rfl (fun H h => pgR.x h) q_245 q_247 q_p2 q_1 q_248 hdX2_findDisk rfl ⟨Nat.le_of_ble_eq_true rfl, Nat.le_of_ble_eq_true rfl⟩ (Nat.le_of_ble_eq_true rfl) dX2_isDone_2 rfl ⟨Nat.le_of_ble_eq_true rfl, Nat.le_of_ble_eq_true rfl⟩ (Nat.le_of_ble_eq_true rfl) (Nat.le_of_ble_eq_true rfl) (fun k h => by obtain ⟨rfl, h9⟩ := h; simp only [sp_isDone]; grind) (fun H h => h) (fun r1 hp2 => ?_)
  obtain ⟨rfl, hD3⟩ := hp2
  have hj4 := (pgIsD.at hI hD3).1
  refine j_cVi B (S := Unit) 0 [] (WdC' := fun _ => pgR D cD cC A σ n ad) (fun _ => pgR D cD cC A σ n ad) (c_X1_isFinished l D cD cC cI cZ cL A σ n ad (ix d) hj4) rfl (fun H h => pgR.dk h hj4) q_276 q_277 q_278 q_9 q_279 hdX1_isFinished rfl ⟨Nat.le_of_ble_eq_true rfl, Nat.le_of_ble_eq_true rfl⟩ (Nat.le_of_ble_eq_true rfl) dX2_isDone_5 rfl ⟨Nat.le_of_ble_eq_true rfl, Nat.le_of_ble_eq_true rfl⟩ (fun _ h => h) (fun _ _ _ _ h => h) (fun _ h => h) (fun _ _ _ _ h _ _ => h) (fun r5 _ hp6 => ?_)
  by_cases h7 : pgFin σ (ix d)
  · obtain rfl : r5 = 1 := by rw [hp6]; exact if_pos h7
    have e9 : sp_isDone σ d = (0, 1, σ) := by
      simp only [sp_isDone]; grind
    exact j_x (j_iret B hr rfl dX2_isDone_8 (Nat.le_of_ble_eq_true rfl) (Nat.le_of_ble_eq_true rfl) () ⟨by rw [e9], by rw [e9]⟩ (fun H h => pgR.eq h (by rw [e9])))
  · obtain rfl : r5 = 0 := by rw [hp6]; exact if_neg h7
    have e9 : sp_isDone σ d = (0, 0, σ) := by
      simp only [sp_isDone]; grind
    exact j_x (j_iret B hr rfl dX2_isDone_8 (Nat.le_of_ble_eq_true rfl) (Nat.le_of_ble_eq_true rfl) () ⟨by rw [e9], by rw [e9]⟩ (fun H h => pgR.eq h (by rw [e9])))
set_option maxHeartbeats 4000000 in
set_option maxRecDepth 100000 in
/-- crateKeeper -/
theorem c_X2_crateKeeper (l : Launch) (hl : l.stackTraces = false) (D : va_G) (cD cC cI cZ cL : ClassId) (A : Nat → Prop) (σ : pgSt) (n : Nat) (ad : Nat → Nat) (hI : pgI n σ) (c : Int32) : vx_Met l yX2_crateKeeper (.code yX2_crateKeeper cX2_crateKeeper 2 (some .int) :: pgWd) ({ frames := 7, cells := 1, slots := 6, locals := 104 } : Room) (pgPc D (pgTys cD cC cI cZ cL) A (pgR D cD cC A σ n ad) [.ref (ad 0), .int c]) (va_Qi (fun (r : Int32) (_ : Unit) => (sp_askC σ c 10).1 = 0 ∧ r = (sp_askC σ c 10).2.1) (fun _ t9 => pgR D cD cC A ((sp_askC σ c 10).2.2) n ad t9.heap) A) (pgX A (fun k => (sp_askC σ c 10).1 = k ∧ k ≠ 0) (pgR D cD cC A σ n ad)) 1 6 A := by
  refine pg_enterX (own := RX2) (by decide) rfl (Nat.le_of_ble_eq_true rfl) (fun p e s m below meth cc9 B hr hnm ht => ?_)
  refine j_fact (fun H h => pgR.inA h) (fun hIn => ?_)
  refine j_aload_n B dX2_crateKeeper_0 0 rfl rfl ?_
  refine j_iload_n B dX2_crateKeeper_1 1 rfl rfl ?_
  refine j_xVr B 1 [.int c] ht (WdC' := pgR D cD cC A σ n ad)  (c_X2_findCrate l hl D cD cC cI cZ cL A σ n ad c) rfl (fun H h => pgR.x h) q_300 q_302 q_p3 q_1 q_303 hdX2_findCrate rfl ⟨Nat.le_of_ble_eq_true rfl, Nat.le_of_ble_eq_true rfl⟩ (Nat.le_of_ble_eq_true rfl) dX2_crateKeeper_2 rfl ⟨Nat.le_of_ble_eq_true rfl, Nat.le_of_ble_eq_true rfl⟩ (Nat.le_of_ble_eq_true rfl) (Nat.le_of_ble_eq_true rfl) (fun k h => by obtain ⟨rfl, h9⟩ := h; simp only [sp_askC]; grind) (fun H h => h) (fun r1 hp2 => ?_)
  obtain ⟨rfl, hD3⟩ := hp2
  have hj4 := (pgIsC.at hD3).1
  refine j_get B (v := .int (σ 10 (ix c))) pgX0 rfl (fun H h => pgR.cr h hj4) 1 (by decide) q_34 rfl rfl dX2_crateKeeper_5 ?_
  have e9 : sp_askC σ c 10 = (0, σ 10 (ix c), σ) := by
    simp only [sp_askC]; grind
  exact j_x (j_iret B hr rfl dX2_crateKeeper_8 (Nat.le_of_ble_eq_true rfl) (Nat.le_of_ble_eq_true rfl) () ⟨by rw [e9], by rw [e9]⟩ (fun H h => pgR.eq h (by rw [e9])))
set_option maxHeartbeats 4000000 in
set_option maxRecDepth 100000 in
/-- sealOf -/
theorem c_X2_sealOf (l : Launch) (hl : l.stackTraces = false) (D : va_G) (cD cC cI cZ cL : ClassId) (A : Nat → Prop) (σ : pgSt) (n : Nat) (ad : Nat → Nat) (hI : pgI n σ) (c : Int32) : vx_Met l yX2_sealOf (.code yX2_sealOf cX2_sealOf 2 (some .int) :: pgWd) ({ frames := 7, cells := 1, slots := 6, locals := 104 } : Room) (pgPc D (pgTys cD cC cI cZ cL) A (pgR D cD cC A σ n ad) [.ref (ad 0), .int c]) (va_Qi (fun (r : Int32) (_ : Unit) => (sp_askC σ c 11).1 = 0 ∧ r = (sp_askC σ c 11).2.1) (fun _ t9 => pgR D cD cC A ((sp_askC σ c 11).2.2) n ad t9.heap) A) (pgX A (fun k => (sp_askC σ c 11).1 = k ∧ k ≠ 0) (pgR D cD cC A σ n ad)) 1 6 A := by
  refine pg_enterX (own := RX2) (by decide) rfl (Nat.le_of_ble_eq_true rfl) (fun p e s m below meth cc9 B hr hnm ht => ?_)
  refine j_fact (fun H h => pgR.inA h) (fun hIn => ?_)
  refine j_aload_n B dX2_sealOf_0 0 rfl rfl ?_
  refine j_iload_n B dX2_sealOf_1 1 rfl rfl ?_
  refine j_xVr B 1 [.int c] ht (WdC' := pgR D cD cC A σ n ad)  (c_X2_findCrate l hl D cD cC cI cZ cL A σ n ad c) rfl (fun H h => pgR.x h) q_300 q_302 q_p3 q_1 q_303 hdX2_findCrate rfl ⟨Nat.le_of_ble_eq_true rfl, Nat.le_of_ble_eq_true rfl⟩ (Nat.le_of_ble_eq_true rfl) dX2_sealOf_2 rfl ⟨Nat.le_of_ble_eq_true rfl, Nat.le_of_ble_eq_true rfl⟩ (Nat.le_of_ble_eq_true rfl) (Nat.le_of_ble_eq_true rfl) (fun k h => by obtain ⟨rfl, h9⟩ := h; simp only [sp_askC]; grind) (fun H h => h) (fun r1 hp2 => ?_)
  obtain ⟨rfl, hD3⟩ := hp2
  have hj4 := (pgIsC.at hD3).1
  refine j_get B (v := .int (σ 11 (ix c))) pgX0 rfl (fun H h => pgR.cr h hj4) 2 (by decide) q_36 rfl rfl dX2_sealOf_5 ?_
  have e9 : sp_askC σ c 11 = (0, σ 11 (ix c), σ) := by
    simp only [sp_askC]; grind
  exact j_x (j_iret B hr rfl dX2_sealOf_8 (Nat.le_of_ble_eq_true rfl) (Nat.le_of_ble_eq_true rfl) () ⟨by rw [e9], by rw [e9]⟩ (fun H h => pgR.eq h (by rw [e9])))
set_option maxHeartbeats 4000000 in
set_option maxRecDepth 100000 in
/-- disks -/
theorem c_X2_disks (l : Launch) (D : va_G) (cD cC cI cZ cL : ClassId) (A : Nat → Prop) (σ : pgSt) (n : Nat) (ad : Nat → Nat)  : Met l yX2_disks (.code yX2_disks cX2_disks 1 (some .int) :: pgWd) ({ frames := 0, cells := 0, slots := 0, locals := 0 } : Room) (pgPc D (pgTys cD cC cI cZ cL) A (pgR D cD cC A σ n ad) [.ref (ad 0)]) (va_Qi (fun (r : Int32) (_ : Unit) => r = σ 13 0) (fun _ t9 => pgR D cD cC A σ n ad t9.heap) A) 0 0 A := by
  refine pg_enter (own := RX2) (by decide) rfl (Nat.le_of_ble_eq_true rfl) (fun p e s m below meth cc9 B hr hnm => ?_)
  refine j_aload_n B dX2_disks_0 0 rfl rfl ?_
  refine j_get B (v := .int (σ 13 0)) pgX2 rfl (fun H h => pgR.x h) 2 (by decide) q_49 rfl rfl dX2_disks_1 ?_
  exact j_iret B hr rfl dX2_disks_4 (Nat.le_of_ble_eq_true rfl) (Nat.le_of_ble_eq_true rfl) () rfl (fun H h => h)
set_option maxHeartbeats 4000000 in
set_option maxRecDepth 100000 in
/-- oddCounts -/
theorem c_X2_oddCounts (l : Launch) (D : va_G) (cD cC cI cZ cL : ClassId) (A : Nat → Prop) (σ : pgSt) (n : Nat) (ad : Nat → Nat)  : Met l yX2_oddCounts (.code yX2_oddCounts cX2_oddCounts 1 (some .int) :: pgWd) ({ frames := 0, cells := 0, slots := 0, locals := 0 } : Room) (pgPc D (pgTys cD cC cI cZ cL) A (pgR D cD cC A σ n ad) [.ref (ad 0)]) (va_Qi (fun (r : Int32) (_ : Unit) => r = σ 13 2) (fun _ t9 => pgR D cD cC A σ n ad t9.heap) A) 0 0 A := by
  refine pg_enter (own := RX2) (by decide) rfl (Nat.le_of_ble_eq_true rfl) (fun p e s m below meth cc9 B hr hnm => ?_)
  refine j_aload_n B dX2_oddCounts_0 0 rfl rfl ?_
  refine j_get B (v := .int (σ 13 2)) pgX2 rfl (fun H h => pgR.x h) 4 (by decide) q_51 rfl rfl dX2_oddCounts_1 ?_
  exact j_iret B hr rfl dX2_oddCounts_4 (Nat.le_of_ble_eq_true rfl) (Nat.le_of_ble_eq_true rfl) () rfl (fun H h => h)
set_option maxHeartbeats 4000000 in
set_option maxRecDepth 100000 in
/-- logged -/
theorem c_X2_logged (l : Launch) (D : va_G) (cD cC cI cZ cL : ClassId) (A : Nat → Prop) (σ : pgSt) (n : Nat) (ad : Nat → Nat)  : Met l yX2_logged (.code yX2_logged cX2_logged 1 (some .int) :: pgWd) ({ frames := 0, cells := 0, slots := 0, locals := 0 } : Room) (pgPc D (pgTys cD cC cI cZ cL) A (pgR D cD cC A σ n ad) [.ref (ad 0)]) (va_Qi (fun (r : Int32) (_ : Unit) => r = σ 13 3) (fun _ t9 => pgR D cD cC A σ n ad t9.heap) A) 0 0 A := by
  refine pg_enter (own := RX2) (by decide) rfl (Nat.le_of_ble_eq_true rfl) (fun p e s m below meth cc9 B hr hnm => ?_)
  refine j_aload_n B dX2_logged_0 0 rfl rfl ?_
  refine j_get B (v := .int (σ 13 3)) pgX2 rfl (fun H h => pgR.x h) 5 (by decide) q_52 rfl rfl dX2_logged_1 ?_
  exact j_iret B hr rfl dX2_logged_4 (Nat.le_of_ble_eq_true rfl) (Nat.le_of_ble_eq_true rfl) () rfl (fun H h => h)
set_option maxHeartbeats 4000000 in
set_option maxRecDepth 100000 in
/-- certificates -/
theorem c_X2_certificates (l : Launch) (D : va_G) (cD cC cI cZ cL : ClassId) (A : Nat → Prop) (σ : pgSt) (n : Nat) (ad : Nat → Nat)  : Met l yX2_certificates (.code yX2_certificates cX2_certificates 1 (some .int) :: pgWd) ({ frames := 0, cells := 0, slots := 0, locals := 0 } : Room) (pgPc D (pgTys cD cC cI cZ cL) A (pgR D cD cC A σ n ad) [.ref (ad 0)]) (va_Qi (fun (r : Int32) (_ : Unit) => r = σ 13 4) (fun _ t9 => pgR D cD cC A σ n ad t9.heap) A) 0 0 A := by
  refine pg_enter (own := RX2) (by decide) rfl (Nat.le_of_ble_eq_true rfl) (fun p e s m below meth cc9 B hr hnm => ?_)
  refine j_aload_n B dX2_certificates_0 0 rfl rfl ?_
  refine j_get B (v := .int (σ 13 4)) pgX2 rfl (fun H h => pgR.x h) 6 (by decide) q_53 rfl rfl dX2_certificates_1 ?_
  exact j_iret B hr rfl dX2_certificates_4 (Nat.le_of_ble_eq_true rfl) (Nat.le_of_ble_eq_true rfl) () rfl (fun H h => h)
