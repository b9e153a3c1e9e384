set_option maxHeartbeats 4000000 in
set_option maxRecDepth 100000 in
/-- case 0: bring -/
theorem law_bring {p : Program} {l : Launch} {e : Env} {s : State} {m : MethodId} {args : Array Value} {below : List Frame} {meth : Method} {c : Code} {D : va_G} {cD cC cI cZ cL : ClassId} {A : Nat → Prop} {Q : State → Prop} (hl : l.stackTraces = false) (B : pgB p m c s args meth RL cL_law 7 D (pgTys cD cC cI cZ cL) A) {b L0 : Nat} {xs : Nat → Int32} (hX : va_X b L0 xs s s.heap) (hbl : b < s.heap.size) (hbA : ¬ A b) {i : Int32} (g1 : vp_in (i + 1) L0) (g2 : vp_in (i + 2) L0) (g3 : vp_in (i + 3) L0) {σ : pgSt} {n : Nat} {ad : Nat → Nat} {o : Nat} {f : Nat → Int64} {ρ : Nat → Int32} {th : Int32} {md : Nat → Nat} (hI : pgI n σ) (hR : pgRho σ ρ) {cells slots : Nat} (hcl : cells + 5 ≤ room_1.cells ∧ slots + 30 ≤ room_1.slots)
    (kk : ∀ (σ2 : pgSt) (n2 : Nat) (ad2 : Nat → Nat) (f2 : Nat → Int64) (ρ2 : Nat → Int32) (th2 : Int32), pgI n2 σ2 → pgRho σ2 ρ2 → ad2 0 = ad 0 → pgJ p l e room_1 s m args below meth c 7 A (pgWL D cD cC cI cZ cL A σ2 n2 ad2 o f2 σ2 ρ2 th2 md) (cells + 5) (slots + 30) Q 1760 [(4, .int i), (3, .ref o), (2, .ref (md 0)), (1, .ref (ad 0)), (0, .ref b)] []) : pgJ p l e room_1 s m args below meth c 7 A (pgWL D cD cC cI cZ cL A σ n ad o f σ ρ th md) cells slots Q 168 [(4, .int i), (3, .ref o), (2, .ref (md 0)), (1, .ref (ad 0)), (0, .ref b)] [] := by
  have hsc := @sc_bring σ (xs (i + 1).toNatClampNeg) (xs (i + 2).toNatClampNeg) (xs (i + 3).toNatClampNeg)
  have kp : pgI (if (sp_bring σ (xs (i + 1).toNatClampNeg) (xs (i + 2).toNatClampNeg) (xs (i + 3).toNatClampNeg)).1 = 0 then n + 1 else n) (sp_bring σ (xs (i + 1).toNatClampNeg) (xs (i + 2).toNatClampNeg) (xs (i + 3).toNatClampNeg)).2.2 ∧ pgRho (sp_bring σ (xs (i + 1).toNatClampNeg) (xs (i + 2).toNatClampNeg) (xs (i + 3).toNatClampNeg)).2.2 ρ := kp_bring hI hR
  have hW := c_L_bring l hl D cD cC cI cZ cL (fun z => A z ∧ ∀ k, k < 14 → z ≠ md k) σ n ad o f hI (xs (i + 1).toNatClampNeg) (xs (i + 2).toNatClampNeg) (xs (i + 3).toNatClampNeg)
  refine j_aload_n B dL_law_168 3 rfl rfl ?_
  refine j_aload_n B dL_law_169 4 rfl rfl ?_
  refine j_iload B dL_law_170 0 rfl ?_
  refine j_iconst B (v := 1) dL_law_172 (by decide) ?_
  refine j_iadd B dL_law_173 ?_
  refine j_sld B hX hbl hbA g1 dL_law_174 ?_
  refine j_aload_n B dL_law_175 4 rfl rfl ?_
  refine j_iload B dL_law_176 0 rfl ?_
  refine j_iconst B (v := 2) dL_law_178 (by decide) ?_
  refine j_iadd B dL_law_179 ?_
  refine j_sld B hX hbl hbA g2 dL_law_180 ?_
  refine j_aload_n B dL_law_181 4 rfl rfl ?_
  refine j_iload B dL_law_182 0 rfl ?_
  refine j_iconst B (v := 3) dL_law_184 (by decide) ?_
  refine j_iadd B dL_law_185 ?_
  refine j_sld B hX hbl hbA g3 dL_law_186 ?_
  refine j_aload_n B dL_law_187 1 rfl rfl ?_
  refine j_cWi B (S := Nat → Nat) 5 [.ref (ad 0), .int (xs (i + 1).toNatClampNeg), .int (xs (i + 2).toNatClampNeg), .int (xs (i + 3).toNatClampNeg), .ref o] (WdC' := fun u => pgWO D cD cC cL (fun z => A z ∧ ∀ k, k < 14 → z ≠ md k) (sp_bring σ (xs (i + 1).toNatClampNeg) (xs (i + 2).toNatClampNeg) (xs (i + 3).toNatClampNeg)).2.2 (if (sp_bring σ (xs (i + 1).toNatClampNeg) (xs (i + 2).toNatClampNeg) (xs (i + 3).toNatClampNeg)).1 = 0 then n + 1 else n) u o (if (sp_bring σ (xs (i + 1).toNatClampNeg) (xs (i + 2).toNatClampNeg) (xs (i + 3).toNatClampNeg)).1 = 0 then vp_updL f 0 (sp_bring σ (xs (i + 1).toNatClampNeg) (xs (i + 2).toNatClampNeg) (xs (i + 3).toNatClampNeg)).2.1.toInt64 else f)) (fun u => pgWL D cD cC cI cZ cL A ((sp_bring σ (xs (i + 1).toNatClampNeg) (xs (i + 2).toNatClampNeg) (xs (i + 3).toNatClampNeg)).2.2) (if (sp_bring σ (xs (i + 1).toNatClampNeg) (xs (i + 2).toNatClampNeg) (xs (i + 3).toNatClampNeg)).1 = 0 then n + 1 else n) u o (if (sp_bring σ (xs (i + 1).toNatClampNeg) (xs (i + 2).toNatClampNeg) (xs (i + 3).toNatClampNeg)).1 = 0 then vp_updL f 0 (sp_bring σ (xs (i + 1).toNatClampNeg) (xs (i + 2).toNatClampNeg) (xs (i + 3).toNatClampNeg)).2.1.toInt64 else f) σ ρ th md) hW q_87 q_88 q_0 q_89 hdL_bring rfl ⟨Nat.le_of_ble_eq_true rfl, Nat.le_of_ble_eq_true rfl⟩ (Nat.le_of_ble_eq_true rfl) dL_law_188 rfl ⟨Nat.le_trans (Nat.add_le_add_left (Nat.le_of_ble_eq_true rfl) _) hcl.1, Nat.le_trans (Nat.add_le_add_left (Nat.le_of_ble_eq_true rfl) _) hcl.2⟩ (fun _ h => h.1) (fun _ h => h.new1) (fun _ h => h.1) (fun H H1 u h h1 hz hk => h.cls h1 hk) (fun r u hp1 => ?_)
  obtain ⟨hp1, hu⟩ := hp1
  subst hp1
  refine j_widen (k := cells + 5) (n := slots + 30) (Nat.add_le_add_left (Nat.le_of_ble_eq_true rfl) _) (Nat.add_le_add_left (Nat.le_of_ble_eq_true rfl) _) ?_
  refine j_istore B (L' := [(5, .int (nI (sp_bring σ (xs (i + 1).toNatClampNeg) (xs (i + 2).toNatClampNeg) (xs (i + 3).toNatClampNeg)).1)), (4, .int i), (3, .ref o), (2, .ref (md 0)), (1, .ref (ad 0)), (0, .ref b)]) dL_law_191 (by decide) rfl ?_
  refine j_aload_n B dL_law_193 3 rfl rfl ?_
  refine j_aload_n B dL_law_194 5 rfl rfl ?_
  refine j_iload B dL_law_195 1 rfl ?_
  refine j_iconst B (v := 1) dL_law_197 (by decide) ?_
  refine j_iadd B dL_law_198 ?_
  refine j_sld B hX hbl hbA g1 dL_law_199 ?_
  refine j_aload_n B dL_law_200 5 rfl rfl ?_
  refine j_iload B dL_law_201 1 rfl ?_
  refine j_iconst B (v := 2) dL_law_203 (by decide) ?_
  refine j_iadd B dL_law_204 ?_
  refine j_sld B hX hbl hbA g2 dL_law_205 ?_
  refine j_aload_n B dL_law_206 5 rfl rfl ?_
  refine j_iload B dL_law_207 1 rfl ?_
  refine j_iconst B (v := 3) dL_law_209 (by decide) ?_
  refine j_iadd B dL_law_210 ?_
  refine j_sld B hX hbl hbA g3 dL_law_211 ?_
  refine j_cVi B (S := Unit) 3 [.int (xs (i + 1).toNatClampNeg), .int (xs (i + 2).toNatClampNeg), .int (xs (i + 3).toNatClampNeg)] (WdC' := fun _ => pgM D cI cZ (fun z => A z ∧ z ≠ o ∧ ∀ k, k < 13 + (if (sp_bring σ (xs (i + 1).toNatClampNeg) (xs (i + 2).toNatClampNeg) (xs (i + 3).toNatClampNeg)).1 = 0 then n + 1 else n) → z ≠ u k) (sp_bring σ (xs (i + 1).toNatClampNeg) (xs (i + 2).toNatClampNeg) (xs (i + 3).toNatClampNeg)).2.2 ρ (nI (sp_bring σ (xs (i + 1).toNatClampNeg) (xs (i + 2).toNatClampNeg) (xs (i + 3).toNatClampNeg)).1) md) (fun _ => pgWL D cD cC cI cZ cL A ((sp_bring σ (xs (i + 1).toNatClampNeg) (xs (i + 2).toNatClampNeg) (xs (i + 3).toNatClampNeg)).2.2) (if (sp_bring σ (xs (i + 1).toNatClampNeg) (xs (i + 2).toNatClampNeg) (xs (i + 3).toNatClampNeg)).1 = 0 then n + 1 else n) u o (if (sp_bring σ (xs (i + 1).toNatClampNeg) (xs (i + 2).toNatClampNeg) (xs (i + 3).toNatClampNeg)).1 = 0 then vp_updL f 0 (sp_bring σ (xs (i + 1).toNatClampNeg) (xs (i + 2).toNatClampNeg) (xs (i + 3).toNatClampNeg)).2.1.toInt64 else f) ((sp_bring σ (xs (i + 1).toNatClampNeg) (xs (i + 2).toNatClampNeg) (xs (i + 3).toNatClampNeg)).2.2) ρ (nI (sp_bring σ (xs (i + 1).toNatClampNeg) (xs (i + 2).toNatClampNeg) (xs (i + 3).toNatClampNeg)).1) md) (c_X3_bring l D cD cC cI cZ cL (fun z => A z ∧ z ≠ o ∧ ∀ k, k < 13 + (if (sp_bring σ (xs (i + 1).toNatClampNeg) (xs (i + 2).toNatClampNeg) (xs (i + 3).toNatClampNeg)).1 = 0 then n + 1 else n) → z ≠ u k) σ ρ th md n hI (xs (i + 1).toNatClampNeg) (xs (i + 2).toNatClampNeg) (xs (i + 3).toNatClampNeg)) rfl (fun H h => h.2.m) q_569 q_570 q_571 q_3 q_572 hdX3_bring rfl ⟨Nat.le_of_ble_eq_true rfl, Nat.le_of_ble_eq_true rfl⟩ (Nat.le_of_ble_eq_true rfl) dL_law_212 rfl hcl (fun _ h => h.1) (fun _ h => h.new2) (fun _ h => h.2) (fun H H1 u h h1 hz hk => h.rf h1 hk) (fun r2 _ hp2 => ?_)
  refine j_istore B (L' := [(6, .int r2), (5, .int (nI (sp_bring σ (xs (i + 1).toNatClampNeg) (xs (i + 2).toNatClampNeg) (xs (i + 3).toNatClampNeg)).1)), (4, .int i), (3, .ref o), (2, .ref (md 0)), (1, .ref (ad 0)), (0, .ref b)]) dL_law_215 (by decide) rfl ?_
  refine j_aload_n B dL_law_217 4 rfl rfl ?_
  refine j_cVi B (S := Unit) 0 [] (WdC' := fun _ => pgM D cI cZ (fun z => A z ∧ z ≠ o ∧ ∀ k, k < 13 + (if (sp_bring σ (xs (i + 1).toNatClampNeg) (xs (i + 2).toNatClampNeg) (xs (i + 3).toNatClampNeg)).1 = 0 then n + 1 else n) → z ≠ u k) (sp_bring σ (xs (i + 1).toNatClampNeg) (xs (i + 2).toNatClampNeg) (xs (i + 3).toNatClampNeg)).2.2 ρ (nI (sp_bring σ (xs (i + 1).toNatClampNeg) (xs (i + 2).toNatClampNeg) (xs (i + 3).toNatClampNeg)).1) md) (fun _ => pgWL D cD cC cI cZ cL A ((sp_bring σ (xs (i + 1).toNatClampNeg) (xs (i + 2).toNatClampNeg) (xs (i + 3).toNatClampNeg)).2.2) (if (sp_bring σ (xs (i + 1).toNatClampNeg) (xs (i + 2).toNatClampNeg) (xs (i + 3).toNatClampNeg)).1 = 0 then n + 1 else n) u o (if (sp_bring σ (xs (i + 1).toNatClampNeg) (xs (i + 2).toNatClampNeg) (xs (i + 3).toNatClampNeg)).1 = 0 then vp_updL f 0 (sp_bring σ (xs (i + 1).toNatClampNeg) (xs (i + 2).toNatClampNeg) (xs (i + 3).toNatClampNeg)).2.1.toInt64 else f) ((sp_bring σ (xs (i + 1).toNatClampNeg) (xs (i + 2).toNatClampNeg) (xs (i + 3).toNatClampNeg)).2.2) ρ (nI (sp_bring σ (xs (i + 1).toNatClampNeg) (xs (i + 2).toNatClampNeg) (xs (i + 3).toNatClampNeg)).1) md) (c_X3_thrown l D cD cC cI cZ cL (fun z => A z ∧ z ≠ o ∧ ∀ k, k < 13 + (if (sp_bring σ (xs (i + 1).toNatClampNeg) (xs (i + 2).toNatClampNeg) (xs (i + 3).toNatClampNeg)).1 = 0 then n + 1 else n) → z ≠ u k) ((sp_bring σ (xs (i + 1).toNatClampNeg) (xs (i + 2).toNatClampNeg) (xs (i + 3).toNatClampNeg)).2.2) ρ (nI (sp_bring σ (xs (i + 1).toNatClampNeg) (xs (i + 2).toNatClampNeg) (xs (i + 3).toNatClampNeg)).1) md) rfl (fun H h => h.2.m) q_565 q_566 q_567 q_3 q_568 hdX3_thrown rfl ⟨Nat.le_of_ble_eq_true rfl, Nat.le_of_ble_eq_true rfl⟩ (Nat.le_of_ble_eq_true rfl) dL_law_218 rfl hcl (fun _ h => h.1) (fun _ h => h.new2) (fun _ h => h.2) (fun H H1 u h h1 hz hk => h.rf h1 hk) (fun r3 _ hp3 => ?_)
  subst hp3
  refine j_iload B dL_law_221 1 rfl ?_
  refine j_icmp_eq B 228 dL_law_223 (by decide) (fun _ => ?_) (fun h => absurd rfl h)
  refine j_iload B dL_law_228 1 rfl ?_
  refine j_if_ne B 245 dL_law_230 (by decide) (fun _ => ?_) (fun h => ?_)
  · refine j_goto B 1760 dL_law_245 (by decide) ?_
    refine j_locals (L' := [(4, .int i), (3, .ref o), (2, .ref (md 0)), (1, .ref (ad 0)), (0, .ref b)]) [2, 3, 4, 5, 6] rfl ?_
    exact kk _ _ _ _ _ _ kp.1 kp.2 hu
  · have h0 := (pg_kx0 (by have := hsc.1; omega)).1 h
    refine j_aload_n B dL_law_233 3 rfl rfl ?_
    refine j_iconst B (v := 0) dL_law_234 (by decide) ?_
    refine j_lald B (fun H h => h.1.2.1) 4 rfl pg_in01 dL_law_235 ?_
    refine j_iload B dL_law_236 0 rfl ?_
    refine j_i2l B dL_law_238 ?_
    refine j_lcmp B dL_law_239 ?_
    refine j_if_eq B 245 dL_law_240 (by decide) (fun _ => ?_) (fun h9 => absurd (pg_cmp9 h0 (congrArg Int32.toInt64 (hp2 h0).symm)) h9)
    refine j_goto B 1760 dL_law_245 (by decide) ?_
    refine j_locals (L' := [(4, .int i), (3, .ref o), (2, .ref (md 0)), (1, .ref (ad 0)), (0, .ref b)]) [2, 3, 4, 5, 6] rfl ?_
    exact kk _ _ _ _ _ _ kp.1 kp.2 hu
set_option maxHeartbeats 4000000 in
set_option maxRecDepth 100000 in
/-- case 1: offer -/
theorem law_offer {p : Program} {l : Launch} {e : Env} {s : State} {m : MethodId} {args : Array Value} {below : List Frame} {meth : Method} {c : Code} {D : va_G} {cD cC cI cZ cL : ClassId} {A : Nat → Prop} {Q : State → Prop} (hl : l.stackTraces = false) (B : pgB p m c s args meth RL cL_law 7 D (pgTys cD cC cI cZ cL) A) {b L0 : Nat} {xs : Nat → Int32} (hX : va_X b L0 xs s s.heap) (hbl : b < s.heap.size) (hbA : ¬ A b) {i : Int32} (g1 : vp_in (i + 1) L0) (g2 : vp_in (i + 2) L0) (g3 : vp_in (i + 3) L0) {σ : pgSt} {n : Nat} {ad : Nat → Nat} {o : Nat} {f : Nat → Int64} {ρ : Nat → Int32} {th : Int32} {md : Nat → Nat} (hI : pgI n σ) (hR : pgRho σ ρ) {cells slots : Nat} (hcl : cells + 5 ≤ room_1.cells ∧ slots + 30 ≤ room_1.slots)
    (kk : ∀ (σ2 : pgSt) (n2 : Nat) (ad2 : Nat → Nat) (f2 : Nat → Int64) (ρ2 : Nat → Int32) (th2 : Int32), pgI n2 σ2 → pgRho σ2 ρ2 → ad2 0 = ad 0 → pgJ p l e room_1 s m args below meth c 7 A (pgWL D cD cC cI cZ cL A σ2 n2 ad2 o f2 σ2 ρ2 th2 md) (cells + 5) (slots + 30) Q 1760 [(4, .int i), (3, .ref o), (2, .ref (md 0)), (1, .ref (ad 0)), (0, .ref b)] []) : pgJ p l e room_1 s m args below meth c 7 A (pgWL D cD cC cI cZ cL A σ n ad o f σ ρ th md) cells slots Q 248 [(4, .int i), (3, .ref o), (2, .ref (md 0)), (1, .ref (ad 0)), (0, .ref b)] [] := by
  have hsc := @sc_offer σ (xs (i + 1).toNatClampNeg) (xs (i + 2).toNatClampNeg)
  have kp : pgI n (sp_offer σ (xs (i + 1).toNatClampNeg) (xs (i + 2).toNatClampNeg)).2.2 ∧ pgRho (sp_offer σ (xs (i + 1).toNatClampNeg) (xs (i + 2).toNatClampNeg)).2.2 ρ := kp_offer hI hR
  have hW := c_L_offer l hl D cD cC cI cZ cL (fun z => A z ∧ ∀ k, k < 14 → z ≠ md k) σ n ad o f hI (xs (i + 1).toNatClampNeg) (xs (i + 2).toNatClampNeg)
  refine j_aload_n B dL_law_248 3 rfl rfl ?_
  refine j_aload_n B dL_law_249 4 rfl rfl ?_
  refine j_iload B dL_law_250 0 rfl ?_
  refine j_iconst B (v := 1) dL_law_252 (by decide) ?_
  refine j_iadd B dL_law_253 ?_
  refine j_sld B hX hbl hbA g1 dL_law_254 ?_
  refine j_aload_n B dL_law_255 4 rfl rfl ?_
  refine j_iload B dL_law_256 0 rfl ?_
  refine j_iconst B (v := 2) dL_law_258 (by decide) ?_
  refine j_iadd B dL_law_259 ?_
  refine j_sld B hX hbl hbA g2 dL_law_260 ?_
  refine j_aload_n B dL_law_261 1 rfl rfl ?_
  refine j_cWi B (S := Unit) 4 [.ref (ad 0), .int (xs (i + 1).toNatClampNeg), .int (xs (i + 2).toNatClampNeg), .ref o] (WdC' := fun _ => pgWO D cD cC cL (fun z => A z ∧ ∀ k, k < 14 → z ≠ md k) (sp_offer σ (xs (i + 1).toNatClampNeg) (xs (i + 2).toNatClampNeg)).2.2 n ad o (if (sp_offer σ (xs (i + 1).toNatClampNeg) (xs (i + 2).toNatClampNeg)).1 = 0 then vp_updL f 0 (sp_offer σ (xs (i + 1).toNatClampNeg) (xs (i + 2).toNatClampNeg)).2.1.toInt64 else f)) (fun _ => pgWL D cD cC cI cZ cL A ((sp_offer σ (xs (i + 1).toNatClampNeg) (xs (i + 2).toNatClampNeg)).2.2) n ad o (if (sp_offer σ (xs (i + 1).toNatClampNeg) (xs (i + 2).toNatClampNeg)).1 = 0 then vp_updL f 0 (sp_offer σ (xs (i + 1).toNatClampNeg) (xs (i + 2).toNatClampNeg)).2.1.toInt64 else f) σ ρ th md) hW q_253 q_254 q_0 q_255 hdL_offer rfl ⟨Nat.le_of_ble_eq_true rfl, Nat.le_of_ble_eq_true rfl⟩ (Nat.le_of_ble_eq_true rfl) dL_law_262 rfl ⟨Nat.le_trans (Nat.add_le_add_left (Nat.le_of_ble_eq_true rfl) _) hcl.1, Nat.le_trans (Nat.add_le_add_left (Nat.le_of_ble_eq_true rfl) _) hcl.2⟩ (fun _ h => h.1) (fun _ h => h.new1) (fun _ h => h.1) (fun H H1 u h h1 hz hk => h.cls h1 hk) (fun r _ hp1 => ?_)
  subst hp1
  refine j_widen (k := cells + 5) (n := slots + 30) (Nat.add_le_add_left (Nat.le_of_ble_eq_true rfl) _) (Nat.add_le_add_left (Nat.le_of_ble_eq_true rfl) _) ?_
  refine j_istore B (L' := [(5, .int (nI (sp_offer σ (xs (i + 1).toNatClampNeg) (xs (i + 2).toNatClampNeg)).1)), (4, .int i), (3, .ref o), (2, .ref (md 0)), (1, .ref (ad 0)), (0, .ref b)]) dL_law_265 (by decide) rfl ?_
  refine j_aload_n B dL_law_267 3 rfl rfl ?_
  refine j_aload_n B dL_law_268 5 rfl rfl ?_
  refine j_iload B dL_law_269 1 rfl ?_
  refine j_iconst B (v := 1) dL_law_271 (by decide) ?_
  refine j_iadd B dL_law_272 ?_
  refine j_sld B hX hbl hbA g1 dL_law_273 ?_
  refine j_aload_n B dL_law_274 5 rfl rfl ?_
  refine j_iload B dL_law_275 1 rfl ?_
  refine j_iconst B (v := 2) dL_law_277 (by decide) ?_
  refine j_iadd B dL_law_278 ?_
  refine j_sld B hX hbl hbA g2 dL_law_279 ?_
  refine j_cVi B (S := Unit) 2 [.int (xs (i + 1).toNatClampNeg), .int (xs (i + 2).toNatClampNeg)] (WdC' := fun _ => pgM D cI cZ (fun z => A z ∧ z ≠ o ∧ ∀ k, k < 13 + n → z ≠ ad k) (sp_offer σ (xs (i + 1).toNatClampNeg) (xs (i + 2).toNatClampNeg)).2.2 ρ (nI (sp_offer σ (xs (i + 1).toNatClampNeg) (xs (i + 2).toNatClampNeg)).1) md) (fun _ => pgWL D cD cC cI cZ cL A ((sp_offer σ (xs (i + 1).toNatClampNeg) (xs (i + 2).toNatClampNeg)).2.2) n ad o (if (sp_offer σ (xs (i + 1).toNatClampNeg) (xs (i + 2).toNatClampNeg)).1 = 0 then vp_updL f 0 (sp_offer σ (xs (i + 1).toNatClampNeg) (xs (i + 2).toNatClampNeg)).2.1.toInt64 else f) ((sp_offer σ (xs (i + 1).toNatClampNeg) (xs (i + 2).toNatClampNeg)).2.2) ρ (nI (sp_offer σ (xs (i + 1).toNatClampNeg) (xs (i + 2).toNatClampNeg)).1) md) (c_X3_offer l D cD cC cI cZ cL (fun z => A z ∧ z ≠ o ∧ ∀ k, k < 13 + n → z ≠ ad k) σ ρ th md n hI (xs (i + 1).toNatClampNeg) (xs (i + 2).toNatClampNeg)) rfl (fun H h => h.2.m) q_583 q_584 q_585 q_3 q_586 hdX3_offer rfl ⟨Nat.le_of_ble_eq_true rfl, Nat.le_of_ble_eq_true rfl⟩ (Nat.le_of_ble_eq_true rfl) dL_law_280 rfl hcl (fun _ h => h.1) (fun _ h => h.new2) (fun _ h => h.2) (fun H H1 u h h1 hz hk => h.rf h1 hk) (fun r2 _ hp2 => ?_)
  refine j_istore B (L' := [(6, .int r2), (5, .int (nI (sp_offer σ (xs (i + 1).toNatClampNeg) (xs (i + 2).toNatClampNeg)).1)), (4, .int i), (3, .ref o), (2, .ref (md 0)), (1, .ref (ad 0)), (0, .ref b)]) dL_law_283 (by decide) rfl ?_
  refine j_aload_n B dL_law_285 4 rfl rfl ?_
  refine j_cVi B (S := Unit) 0 [] (WdC' := fun _ => pgM D cI cZ (fun z => A z ∧ z ≠ o ∧ ∀ k, k < 13 + n → z ≠ ad k) (sp_offer σ (xs (i + 1).toNatClampNeg) (xs (i + 2).toNatClampNeg)).2.2 ρ (nI (sp_offer σ (xs (i + 1).toNatClampNeg) (xs (i + 2).toNatClampNeg)).1) md) (fun _ => pgWL D cD cC cI cZ cL A ((sp_offer σ (xs (i + 1).toNatClampNeg) (xs (i + 2).toNatClampNeg)).2.2) n ad o (if (sp_offer σ (xs (i + 1).toNatClampNeg) (xs (i + 2).toNatClampNeg)).1 = 0 then vp_updL f 0 (sp_offer σ (xs (i + 1).toNatClampNeg) (xs (i + 2).toNatClampNeg)).2.1.toInt64 else f) ((sp_offer σ (xs (i + 1).toNatClampNeg) (xs (i + 2).toNatClampNeg)).2.2) ρ (nI (sp_offer σ (xs (i + 1).toNatClampNeg) (xs (i + 2).toNatClampNeg)).1) md) (c_X3_thrown l D cD cC cI cZ cL (fun z => A z ∧ z ≠ o ∧ ∀ k, k < 13 + n → z ≠ ad k) ((sp_offer σ (xs (i + 1).toNatClampNeg) (xs (i + 2).toNatClampNeg)).2.2) ρ (nI (sp_offer σ (xs (i + 1).toNatClampNeg) (xs (i + 2).toNatClampNeg)).1) md) rfl (fun H h => h.2.m) q_565 q_566 q_567 q_3 q_568 hdX3_thrown rfl ⟨Nat.le_of_ble_eq_true rfl, Nat.le_of_ble_eq_true rfl⟩ (Nat.le_of_ble_eq_true rfl) dL_law_286 rfl hcl (fun _ h => h.1) (fun _ h => h.new2) (fun _ h => h.2) (fun H H1 u h h1 hz hk => h.rf h1 hk) (fun r3 _ hp3 => ?_)
  subst hp3
  refine j_iload B dL_law_289 1 rfl ?_
  refine j_icmp_eq B 296 dL_law_291 (by decide) (fun _ => ?_) (fun h => absurd rfl h)
  refine j_iload B dL_law_296 1 rfl ?_
  refine j_if_ne B 313 dL_law_298 (by decide) (fun _ => ?_) (fun h => ?_)
  · refine j_goto B 1760 dL_law_313 (by decide) ?_
    refine j_locals (L' := [(4, .int i), (3, .ref o), (2, .ref (md 0)), (1, .ref (ad 0)), (0, .ref b)]) [2, 3, 4, 5, 6] rfl ?_
    exact kk _ _ _ _ _ _ kp.1 kp.2 rfl
  · have h0 := (pg_kx0 (by have := hsc.1; omega)).1 h
    refine j_aload_n B dL_law_301 3 rfl rfl ?_
    refine j_iconst B (v := 0) dL_law_302 (by decide) ?_
    refine j_lald B (fun H h => h.1.2.1) 4 rfl pg_in01 dL_law_303 ?_
    refine j_iload B dL_law_304 0 rfl ?_
    refine j_i2l B dL_law_306 ?_
    refine j_lcmp B dL_law_307 ?_
    refine j_if_eq B 313 dL_law_308 (by decide) (fun _ => ?_) (fun h9 => absurd (pg_cmp9 h0 (congrArg Int32.toInt64 (hp2 h0).symm)) h9)
    refine j_goto B 1760 dL_law_313 (by decide) ?_
    refine j_locals (L' := [(4, .int i), (3, .ref o), (2, .ref (md 0)), (1, .ref (ad 0)), (0, .ref b)]) [2, 3, 4, 5, 6] rfl ?_
    exact kk _ _ _ _ _ _ kp.1 kp.2 rfl
set_option maxHeartbeats 4000000 in
set_option maxRecDepth 100000 in
/-- case 2: answer -/
theorem law_answer {p : Program} {l : Launch} {e : Env} {s : State} {m : MethodId} {args : Array Value} {below : List Frame} {meth : Method} {c : Code} {D : va_G} {cD cC cI cZ cL : ClassId} {A : Nat → Prop} {Q : State → Prop} (hl : l.stackTraces = false) (B : pgB p m c s args meth RL cL_law 7 D (pgTys cD cC cI cZ cL) A) {b L0 : Nat} {xs : Nat → Int32} (hX : va_X b L0 xs s s.heap) (hbl : b < s.heap.size) (hbA : ¬ A b) {i : Int32} (g1 : vp_in (i + 1) L0) (g2 : vp_in (i + 2) L0) (g3 : vp_in (i + 3) L0) {σ : pgSt} {n : Nat} {ad : Nat → Nat} {o : Nat} {f : Nat → Int64} {ρ : Nat → Int32} {th : Int32} {md : Nat → Nat} (hI : pgI n σ) (hR : pgRho σ ρ) {cells slots : Nat} (hcl : cells + 5 ≤ room_1.cells ∧ slots + 30 ≤ room_1.slots)
    (kk : ∀ (σ2 : pgSt) (n2 : Nat) (ad2 : Nat → Nat) (f2 : Nat → Int64) (ρ2 : Nat → Int32) (th2 : Int32), pgI n2 σ2 → pgRho σ2 ρ2 → ad2 0 = ad 0 → pgJ p l e room_1 s m args below meth c 7 A (pgWL D cD cC cI cZ cL A σ2 n2 ad2 o f2 σ2 ρ2 th2 md) (cells + 5) (slots + 30) Q 1760 [(4, .int i), (3, .ref o), (2, .ref (md 0)), (1, .ref (ad 0)), (0, .ref b)] []) : pgJ p l e room_1 s m args below meth c 7 A (pgWL D cD cC cI cZ cL A σ n ad o f σ ρ th md) cells slots Q 316 [(4, .int i), (3, .ref o), (2, .ref (md 0)), (1, .ref (ad 0)), (0, .ref b)] [] := by
  by_cases hz : xs (i + 2).toNatClampNeg = 0
  · have hsc := @sc_answer σ (xs (i + 1).toNatClampNeg) 0
    have kp : pgI n (sp_answer σ (xs (i + 1).toNatClampNeg) 0).2.2 ∧ pgRho (sp_answer σ (xs (i + 1).toNatClampNeg) 0).2.2 ρ := kp_answer hI hR
    have hW := c_L_answer l hl D cD cC cI cZ cL (fun z => A z ∧ ∀ k, k < 14 → z ≠ md k) σ n ad o f hI (xs (i + 1).toNatClampNeg) 0
    refine j_aload_n B dL_law_316 3 rfl rfl ?_
    refine j_aload_n B dL_law_317 4 rfl rfl ?_
    refine j_iload B dL_law_318 0 rfl ?_
    refine j_iconst B (v := 1) dL_law_320 (by decide) ?_
    refine j_iadd B dL_law_321 ?_
    refine j_sld B hX hbl hbA g1 dL_law_322 ?_
    refine j_aload_n B dL_law_323 4 rfl rfl ?_
    refine j_iload B dL_law_324 0 rfl ?_
    refine j_iconst B (v := 2) dL_law_326 (by decide) ?_
    refine j_iadd B dL_law_327 ?_
    refine j_sld B hX hbl hbA g2 dL_law_328 ?_
    refine j_if_eq B 336 dL_law_329 (by decide) (fun _ => ?_) (fun h => absurd hz h)
    refine j_iconst B (v := 0) dL_law_336 (by decide) ?_
    refine j_aload_n B dL_law_337 1 rfl rfl ?_
    refine j_cWi B (S := Unit) 4 [.ref (ad 0), .int (xs (i + 1).toNatClampNeg), .int 0, .ref o] (WdC' := fun _ => pgWO D cD cC cL (fun z => A z ∧ ∀ k, k < 14 → z ≠ md k) (sp_answer σ (xs (i + 1).toNatClampNeg) 0).2.2 n ad o (if (sp_answer σ (xs (i + 1).toNatClampNeg) 0).1 = 0 then vp_updL f 0 (sp_answer σ (xs (i + 1).toNatClampNeg) 0).2.1.toInt64 else f)) (fun _ => pgWL D cD cC cI cZ cL A ((sp_answer σ (xs (i + 1).toNatClampNeg) 0).2.2) n ad o (if (sp_answer σ (xs (i + 1).toNatClampNeg) 0).1 = 0 then vp_updL f 0 (sp_answer σ (xs (i + 1).toNatClampNeg) 0).2.1.toInt64 else f) σ ρ th md) hW q_270 q_271 q_0 q_272 hdL_answer rfl ⟨Nat.le_of_ble_eq_true rfl, Nat.le_of_ble_eq_true rfl⟩ (Nat.le_of_ble_eq_true rfl) dL_law_338 rfl ⟨Nat.le_trans (Nat.add_le_add_left (Nat.le_of_ble_eq_true rfl) _) hcl.1, Nat.le_trans (Nat.add_le_add_left (Nat.le_of_ble_eq_true rfl) _) hcl.2⟩ (fun _ h => h.1) (fun _ h => h.new1) (fun _ h => h.1) (fun H H1 u h h1 hz hk => h.cls h1 hk) (fun r _ hp1 => ?_)
    subst hp1
    refine j_widen (k := cells + 5) (n := slots + 30) (Nat.add_le_add_left (Nat.le_of_ble_eq_true rfl) _) (Nat.add_le_add_left (Nat.le_of_ble_eq_true rfl) _) ?_
    refine j_istore B (L' := [(5, .int (pgKB (sp_answer σ (xs (i + 1).toNatClampNeg) 0).1)), (4, .int i), (3, .ref o), (2, .ref (md 0)), (1, .ref (ad 0)), (0, .ref b)]) dL_law_341 (by decide) rfl ?_
    refine j_aload_n B dL_law_343 3 rfl rfl ?_
    refine j_aload_n B dL_law_344 5 rfl rfl ?_
    refine j_iload B dL_law_345 1 rfl ?_
    refine j_iconst B (v := 1) dL_law_347 (by decide) ?_
    refine j_iadd B dL_law_348 ?_
    refine j_sld B hX hbl hbA g1 dL_law_349 ?_
    refine j_aload_n B dL_law_350 5 rfl rfl ?_
    refine j_iload B dL_law_351 1 rfl ?_
    refine j_iconst B (v := 2) dL_law_353 (by decide) ?_
    refine j_iadd B dL_law_354 ?_
    refine j_sld B hX hbl hbA g2 dL_law_355 ?_
    refine j_if_eq B 363 dL_law_356 (by decide) (fun _ => ?_) (fun h => absurd hz h)
    refine j_iconst B (v := 0) dL_law_363 (by decide) ?_
    refine j_cVi B (S := Unit) 2 [.int (xs (i + 1).toNatClampNeg), .int 0] (WdC' := fun _ => pgM D cI cZ (fun z => A z ∧ z ≠ o ∧ ∀ k, k < 13 + n → z ≠ ad k) (sp_answer σ (xs (i + 1).toNatClampNeg) 0).2.2 ρ (pgKB (sp_answer σ (xs (i + 1).toNatClampNeg) 0).1) md) (fun _ => pgWL D cD cC cI cZ cL A ((sp_answer σ (xs (i + 1).toNatClampNeg) 0).2.2) n ad o (if (sp_answer σ (xs (i + 1).toNatClampNeg) 0).1 = 0 then vp_updL f 0 (sp_answer σ (xs (i + 1).toNatClampNeg) 0).2.1.toInt64 else f) ((sp_answer σ (xs (i + 1).toNatClampNeg) 0).2.2) ρ (pgKB (sp_answer σ (xs (i + 1).toNatClampNeg) 0).1) md) (c_X3_answer l D cD cC cI cZ cL (fun z => A z ∧ z ≠ o ∧ ∀ k, k < 13 + n → z ≠ ad k) σ ρ th md n hI (xs (i + 1).toNatClampNeg) 0) rfl (fun H h => h.2.m) q_599 q_600 q_601 q_3 q_602 hdX3_answer rfl ⟨Nat.le_of_ble_eq_true rfl, Nat.le_of_ble_eq_true rfl⟩ (Nat.le_of_ble_eq_true rfl) dL_law_364 rfl hcl (fun _ h => h.1) (fun _ h => h.new2) (fun _ h => h.2) (fun H H1 u h h1 hz hk => h.rf h1 hk) (fun r2 _ hp2 => ?_)
    refine j_istore B (L' := [(6, .int r2), (5, .int (pgKB (sp_answer σ (xs (i + 1).toNatClampNeg) 0).1)), (4, .int i), (3, .ref o), (2, .ref (md 0)), (1, .ref (ad 0)), (0, .ref b)]) dL_law_367 (by decide) rfl ?_
    refine j_aload_n B dL_law_369 4 rfl rfl ?_
    refine j_cVi B (S := Unit) 0 [] (WdC' := fun _ => pgM D cI cZ (fun z => A z ∧ z ≠ o ∧ ∀ k, k < 13 + n → z ≠ ad k) (sp_answer σ (xs (i + 1).toNatClampNeg) 0).2.2 ρ (pgKB (sp_answer σ (xs (i + 1).toNatClampNeg) 0).1) md) (fun _ => pgWL D cD cC cI cZ cL A ((sp_answer σ (xs (i + 1).toNatClampNeg) 0).2.2) n ad o (if (sp_answer σ (xs (i + 1).toNatClampNeg) 0).1 = 0 then vp_updL f 0 (sp_answer σ (xs (i + 1).toNatClampNeg) 0).2.1.toInt64 else f) ((sp_answer σ (xs (i + 1).toNatClampNeg) 0).2.2) ρ (pgKB (sp_answer σ (xs (i + 1).toNatClampNeg) 0).1) md) (c_X3_thrown l D cD cC cI cZ cL (fun z => A z ∧ z ≠ o ∧ ∀ k, k < 13 + n → z ≠ ad k) ((sp_answer σ (xs (i + 1).toNatClampNeg) 0).2.2) ρ (pgKB (sp_answer σ (xs (i + 1).toNatClampNeg) 0).1) md) rfl (fun H h => h.2.m) q_565 q_566 q_567 q_3 q_568 hdX3_thrown rfl ⟨Nat.le_of_ble_eq_true rfl, Nat.le_of_ble_eq_true rfl⟩ (Nat.le_of_ble_eq_true rfl) dL_law_370 rfl hcl (fun _ h => h.1) (fun _ h => h.new2) (fun _ h => h.2) (fun H H1 u h h1 hz hk => h.rf h1 hk) (fun r3 _ hp3 => ?_)
    subst hp3
    refine j_iload B dL_law_373 1 rfl ?_
    refine j_icmp_eq B 380 dL_law_375 (by decide) (fun _ => ?_) (fun h => absurd rfl h)
    refine j_iload B dL_law_380 1 rfl ?_
    refine j_if_ne B 397 dL_law_382 (by decide) (fun _ => ?_) (fun h => ?_)
    · refine j_goto B 1760 dL_law_397 (by decide) ?_
      refine j_locals (L' := [(4, .int i), (3, .ref o), (2, .ref (md 0)), (1, .ref (ad 0)), (0, .ref b)]) [2, 3, 4, 5, 6] rfl ?_
      exact kk _ _ _ _ _ _ kp.1 kp.2 rfl
    · have h0 := (pg_kx0 (by have := hsc.1; omega)).2 h
      refine j_aload_n B dL_law_385 3 rfl rfl ?_
      refine j_iconst B (v := 0) dL_law_386 (by decide) ?_
      refine j_lald B (fun H h => h.1.2.1) 4 rfl pg_in01 dL_law_387 ?_
      refine j_iload B dL_law_388 0 rfl ?_
      refine j_i2l B dL_law_390 ?_
      refine j_lcmp B dL_law_391 ?_
      refine j_if_eq B 397 dL_law_392 (by decide) (fun _ => ?_) (fun h9 => absurd (pg_cmp9 h0 (congrArg Int32.toInt64 (hp2 h0).symm)) h9)
      refine j_goto B 1760 dL_law_397 (by decide) ?_
      refine j_locals (L' := [(4, .int i), (3, .ref o), (2, .ref (md 0)), (1, .ref (ad 0)), (0, .ref b)]) [2, 3, 4, 5, 6] rfl ?_
      exact kk _ _ _ _ _ _ kp.1 kp.2 rfl
  · have hsc := @sc_answer σ (xs (i + 1).toNatClampNeg) 1
    have kp : pgI n (sp_answer σ (xs (i + 1).toNatClampNeg) 1).2.2 ∧ pgRho (sp_answer σ (xs (i + 1).toNatClampNeg) 1).2.2 ρ := kp_answer hI hR
    have hW := c_L_answer l hl D cD cC cI cZ cL (fun z => A z ∧ ∀ k, k < 14 → z ≠ md k) σ n ad o f hI (xs (i + 1).toNatClampNeg) 1
    refine j_aload_n B dL_law_316 3 rfl rfl ?_
    refine j_aload_n B dL_law_317 4 rfl rfl ?_
    refine j_iload B dL_law_318 0 rfl ?_
    refine j_iconst B (v := 1) dL_law_320 (by decide) ?_
    refine j_iadd B dL_law_321 ?_
    refine j_sld B hX hbl hbA g1 dL_law_322 ?_
    refine j_aload_n B dL_law_323 4 rfl rfl ?_
    refine j_iload B dL_law_324 0 rfl ?_
    refine j_iconst B (v := 2) dL_law_326 (by decide) ?_
    refine j_iadd B dL_law_327 ?_
    refine j_sld B hX hbl hbA g2 dL_law_328 ?_
    refine j_if_eq B 336 dL_law_329 (by decide) (fun h => absurd h hz) (fun _ => ?_)
    refine j_iconst B (v := 1) dL_law_332 (by decide) ?_
    refine j_goto B 337 dL_law_333 (by decide) ?_
    refine j_aload_n B dL_law_337 1 rfl rfl ?_
    refine j_cWi B (S := Unit) 4 [.ref (ad 0), .int (xs (i + 1).toNatClampNeg), .int 1, .ref o] (WdC' := fun _ => pgWO D cD cC cL (fun z => A z ∧ ∀ k, k < 14 → z ≠ md k) (sp_answer σ (xs (i + 1).toNatClampNeg) 1).2.2 n ad o (if (sp_answer σ (xs (i + 1).toNatClampNeg) 1).1 = 0 then vp_updL f 0 (sp_answer σ (xs (i + 1).toNatClampNeg) 1).2.1.toInt64 else f)) (fun _ => pgWL D cD cC cI cZ cL A ((sp_answer σ (xs (i + 1).toNatClampNeg) 1).2.2) n ad o (if (sp_answer σ (xs (i + 1).toNatClampNeg) 1).1 = 0 then vp_updL f 0 (sp_answer σ (xs (i + 1).toNatClampNeg) 1).2.1.toInt64 else f) σ ρ th md) hW q_270 q_271 q_0 q_272 hdL_answer rfl ⟨Nat.le_of_ble_eq_true rfl, Nat.le_of_ble_eq_true rfl⟩ (Nat.le_of_ble_eq_true rfl) dL_law_338 rfl ⟨Nat.le_trans (Nat.add_le_add_left (Nat.le_of_ble_eq_true rfl) _) hcl.1, Nat.le_trans (Nat.add_le_add_left (Nat.le_of_ble_eq_true rfl) _) hcl.2⟩ (fun _ h => h.1) (fun _ h => h.new1) (fun _ h => h.1) (fun H H1 u h h1 hz hk => h.cls h1 hk) (fun r _ hp1 => ?_)
    subst hp1
    refine j_widen (k := cells + 5) (n := slots + 30) (Nat.add_le_add_left (Nat.le_of_ble_eq_true rfl) _) (Nat.add_le_add_left (Nat.le_of_ble_eq_true rfl) _) ?_
    refine j_istore B (L' := [(5, .int (pgKB (sp_answer σ (xs (i + 1).toNatClampNeg) 1).1)), (4, .int i), (3, .ref o), (2, .ref (md 0)), (1, .ref (ad 0)), (0, .ref b)]) dL_law_341 (by decide) rfl ?_
    refine j_aload_n B dL_law_343 3 rfl rfl ?_
    refine j_aload_n B dL_law_344 5 rfl rfl ?_
    refine j_iload B dL_law_345 1 rfl ?_
    refine j_iconst B (v := 1) dL_law_347 (by decide) ?_
    refine j_iadd B dL_law_348 ?_
    refine j_sld B hX hbl hbA g1 dL_law_349 ?_
    refine j_aload_n B dL_law_350 5 rfl rfl ?_
    refine j_iload B dL_law_351 1 rfl ?_
    refine j_iconst B (v := 2) dL_law_353 (by decide) ?_
    refine j_iadd B dL_law_354 ?_
    refine j_sld B hX hbl hbA g2 dL_law_355 ?_
    refine j_if_eq B 363 dL_law_356 (by decide) (fun h => absurd h hz) (fun _ => ?_)
    refine j_iconst B (v := 1) dL_law_359 (by decide) ?_
    refine j_goto B 364 dL_law_360 (by decide) ?_
    refine j_cVi B (S := Unit) 2 [.int (xs (i + 1).toNatClampNeg), .int 1] (WdC' := fun _ => pgM D cI cZ (fun z => A z ∧ z ≠ o ∧ ∀ k, k < 13 + n → z ≠ ad k) (sp_answer σ (xs (i + 1).toNatClampNeg) 1).2.2 ρ (pgKB (sp_answer σ (xs (i + 1).toNatClampNeg) 1).1) md) (fun _ => pgWL D cD cC cI cZ cL A ((sp_answer σ (xs (i + 1).toNatClampNeg) 1).2.2) n ad o (if (sp_answer σ (xs (i + 1).toNatClampNeg) 1).1 = 0 then vp_updL f 0 (sp_answer σ (xs (i + 1).toNatClampNeg) 1).2.1.toInt64 else f) ((sp_answer σ (xs (i + 1).toNatClampNeg) 1).2.2) ρ (pgKB (sp_answer σ (xs (i + 1).toNatClampNeg) 1).1) md) (c_X3_answer l D cD cC cI cZ cL (fun z => A z ∧ z ≠ o ∧ ∀ k, k < 13 + n → z ≠ ad k) σ ρ th md n hI (xs (i + 1).toNatClampNeg) 1) rfl (fun H h => h.2.m) q_599 q_600 q_601 q_3 q_602 hdX3_answer rfl ⟨Nat.le_of_ble_eq_true rfl, Nat.le_of_ble_eq_true rfl⟩ (Nat.le_of_ble_eq_true rfl) dL_law_364 rfl hcl (fun _ h => h.1) (fun _ h => h.new2) (fun _ h => h.2) (fun H H1 u h h1 hz hk => h.rf h1 hk) (fun r2 _ hp2 => ?_)
    refine j_istore B (L' := [(6, .int r2), (5, .int (pgKB (sp_answer σ (xs (i + 1).toNatClampNeg) 1).1)), (4, .int i), (3, .ref o), (2, .ref (md 0)), (1, .ref (ad 0)), (0, .ref b)]) dL_law_367 (by decide) rfl ?_
    refine j_aload_n B dL_law_369 4 rfl rfl ?_
    refine j_cVi B (S := Unit) 0 [] (WdC' := fun _ => pgM D cI cZ (fun z => A z ∧ z ≠ o ∧ ∀ k, k < 13 + n → z ≠ ad k) (sp_answer σ (xs (i + 1).toNatClampNeg) 1).2.2 ρ (pgKB (sp_answer σ (xs (i + 1).toNatClampNeg) 1).1) md) (fun _ => pgWL D cD cC cI cZ cL A ((sp_answer σ (xs (i + 1).toNatClampNeg) 1).2.2) n ad o (if (sp_answer σ (xs (i + 1).toNatClampNeg) 1).1 = 0 then vp_updL f 0 (sp_answer σ (xs (i + 1).toNatClampNeg) 1).2.1.toInt64 else f) ((sp_answer σ (xs (i + 1).toNatClampNeg) 1).2.2) ρ (pgKB (sp_answer σ (xs (i + 1).toNatClampNeg) 1).1) md) (c_X3_thrown l D cD cC cI cZ cL (fun z => A z ∧ z ≠ o ∧ ∀ k, k < 13 + n → z ≠ ad k) ((sp_answer σ (xs (i + 1).toNatClampNeg) 1).2.2) ρ (pgKB (sp_answer σ (xs (i + 1).toNatClampNeg) 1).1) md) rfl (fun H h => h.2.m) q_565 q_566 q_567 q_3 q_568 hdX3_thrown rfl ⟨Nat.le_of_ble_eq_true rfl, Nat.le_of_ble_eq_true rfl⟩ (Nat.le_of_ble_eq_true rfl) dL_law_370 rfl hcl (fun _ h => h.1) (fun _ h => h.new2) (fun _ h => h.2) (fun H H1 u h h1 hz hk => h.rf h1 hk) (fun r3 _ hp3 => ?_)
    subst hp3
    refine j_iload B dL_law_373 1 rfl ?_
    refine j_icmp_eq B 380 dL_law_375 (by decide) (fun _ => ?_) (fun h => absurd rfl h)
    refine j_iload B dL_law_380 1 rfl ?_
    refine j_if_ne B 397 dL_law_382 (by decide) (fun _ => ?_) (fun h => ?_)
    · refine j_goto B 1760 dL_law_397 (by decide) ?_
      refine j_locals (L' := [(4, .int i), (3, .ref o), (2, .ref (md 0)), (1, .ref (ad 0)), (0, .ref b)]) [2, 3, 4, 5, 6] rfl ?_
      exact kk _ _ _ _ _ _ kp.1 kp.2 rfl
    · have h0 := (pg_kx0 (by have := hsc.1; omega)).2 h
      refine j_aload_n B dL_law_385 3 rfl rfl ?_
      refine j_iconst B (v := 0) dL_law_386 (by decide) ?_
      refine j_lald B (fun H h => h.1.2.1) 4 rfl pg_in01 dL_law_387 ?_
      refine j_iload B dL_law_388 0 rfl ?_
      refine j_i2l B dL_law_390 ?_
      refine j_lcmp B dL_law_391 ?_
      refine j_if_eq B 397 dL_law_392 (by decide) (fun _ => ?_) (fun h9 => absurd (pg_cmp9 h0 (congrArg Int32.toInt64 (hp2 h0).symm)) h9)
      refine j_goto B 1760 dL_law_397 (by decide) ?_
      refine j_locals (L' := [(4, .int i), (3, .ref o), (2, .ref (md 0)), (1, .ref (ad 0)), (0, .ref b)]) [2, 3, 4, 5, 6] rfl ?_
      exact kk _ _ _ _ _ _ kp.1 kp.2 rfl
set_option maxHeartbeats 4000000 in
set_option maxRecDepth 100000 in
/-- case 3: pack -/
theorem law_pack {p : Program} {l : Launch} {e : Env} {s : State} {m : MethodId} {args : Array Value} {below : List Frame} {meth : Method} {c : Code} {D : va_G} {cD cC cI cZ cL : ClassId} {A : Nat → Prop} {Q : State → Prop} (hl : l.stackTraces = false) (B : pgB p m c s args meth RL cL_law 7 D (pgTys cD cC cI cZ cL) A) {b L0 : Nat} {xs : Nat → Int32} (hX : va_X b L0 xs s s.heap) (hbl : b < s.heap.size) (hbA : ¬ A b) {i : Int32} (g1 : vp_in (i + 1) L0) (g2 : vp_in (i + 2) L0) (g3 : vp_in (i + 3) L0) {σ : pgSt} {n : Nat} {ad : Nat → Nat} {o : Nat} {f : Nat → Int64} {ρ : Nat → Int32} {th : Int32} {md : Nat → Nat} (hI : pgI n σ) (hR : pgRho σ ρ) {cells slots : Nat} (hcl : cells + 5 ≤ room_1.cells ∧ slots + 30 ≤ room_1.slots)
    (kk : ∀ (σ2 : pgSt) (n2 : Nat) (ad2 : Nat → Nat) (f2 : Nat → Int64) (ρ2 : Nat → Int32) (th2 : Int32), pgI n2 σ2 → pgRho σ2 ρ2 → ad2 0 = ad 0 → pgJ p l e room_1 s m args below meth c 7 A (pgWL D cD cC cI cZ cL A σ2 n2 ad2 o f2 σ2 ρ2 th2 md) (cells + 5) (slots + 30) Q 1760 [(4, .int i), (3, .ref o), (2, .ref (md 0)), (1, .ref (ad 0)), (0, .ref b)] []) : pgJ p l e room_1 s m args below meth c 7 A (pgWL D cD cC cI cZ cL A σ n ad o f σ ρ th md) cells slots Q 400 [(4, .int i), (3, .ref o), (2, .ref (md 0)), (1, .ref (ad 0)), (0, .ref b)] [] := by
  have hsc := @sc_pack σ (xs (i + 1).toNatClampNeg) (xs (i + 2).toNatClampNeg)
  have kp : pgI n (sp_pack σ (xs (i + 1).toNatClampNeg) (xs (i + 2).toNatClampNeg)).2.2 ∧ pgRho (sp_pack σ (xs (i + 1).toNatClampNeg) (xs (i + 2).toNatClampNeg)).2.2 ρ := kp_pack hI hR
  have hW := c_L_pack l hl D cD cC cI cZ cL (fun z => A z ∧ ∀ k, k < 14 → z ≠ md k) σ n ad o f hI (xs (i + 1).toNatClampNeg) (xs (i + 2).toNatClampNeg)
  refine j_aload_n B dL_law_400 3 rfl rfl ?_
  refine j_aload_n B dL_law_401 4 rfl rfl ?_
  refine j_iload B dL_law_402 0 rfl ?_
  refine j_iconst B (v := 1) dL_law_404 (by decide) ?_
  refine j_iadd B dL_law_405 ?_
  refine j_sld B hX hbl hbA g1 dL_law_406 ?_
  refine j_aload_n B dL_law_407 4 rfl rfl ?_
  refine j_iload B dL_law_408 0 rfl ?_
  refine j_iconst B (v := 2) dL_law_410 (by decide) ?_
  refine j_iadd B dL_law_411 ?_
  refine j_sld B hX hbl hbA g2 dL_law_412 ?_
  refine j_aload_n B dL_law_413 1 rfl rfl ?_
  refine j_cWi B (S := Unit) 4 [.ref (ad 0), .int (xs (i + 1).toNatClampNeg), .int (xs (i + 2).toNatClampNeg), .ref o] (WdC' := fun _ => pgWO D cD cC cL (fun z => A z ∧ ∀ k, k < 14 → z ≠ md k) (sp_pack σ (xs (i + 1).toNatClampNeg) (xs (i + 2).toNatClampNeg)).2.2 n ad o (if (sp_pack σ (xs (i + 1).toNatClampNeg) (xs (i + 2).toNatClampNeg)).1 = 0 then vp_updL f 0 (sp_pack σ (xs (i + 1).toNatClampNeg) (xs (i + 2).toNatClampNeg)).2.1.toInt64 else f)) (fun _ => pgWL D cD cC cI cZ cL A ((sp_pack σ (xs (i + 1).toNatClampNeg) (xs (i + 2).toNatClampNeg)).2.2) n ad o (if (sp_pack σ (xs (i + 1).toNatClampNeg) (xs (i + 2).toNatClampNeg)).1 = 0 then vp_updL f 0 (sp_pack σ (xs (i + 1).toNatClampNeg) (xs (i + 2).toNatClampNeg)).2.1.toInt64 else f) σ ρ th md) hW q_278 q_279 q_0 q_280 hdL_pack rfl ⟨Nat.le_of_ble_eq_true rfl, Nat.le_of_ble_eq_true rfl⟩ (Nat.le_of_ble_eq_true rfl) dL_law_414 rfl ⟨Nat.le_trans (Nat.add_le_add_left (Nat.le_of_ble_eq_true rfl) _) hcl.1, Nat.le_trans (Nat.add_le_add_left (Nat.le_of_ble_eq_true rfl) _) hcl.2⟩ (fun _ h => h.1) (fun _ h => h.new1) (fun _ h => h.1) (fun H H1 u h h1 hz hk => h.cls h1 hk) (fun r _ hp1 => ?_)
  subst hp1
  refine j_widen (k := cells + 5) (n := slots + 30) (Nat.add_le_add_left (Nat.le_of_ble_eq_true rfl) _) (Nat.add_le_add_left (Nat.le_of_ble_eq_true rfl) _) ?_
  refine j_istore B (L' := [(5, .int (pgKB (sp_pack σ (xs (i + 1).toNatClampNeg) (xs (i + 2).toNatClampNeg)).1)), (4, .int i), (3, .ref o), (2, .ref (md 0)), (1, .ref (ad 0)), (0, .ref b)]) dL_law_417 (by decide) rfl ?_
  refine j_aload_n B dL_law_419 3 rfl rfl ?_
  refine j_aload_n B dL_law_420 5 rfl rfl ?_
  refine j_iload B dL_law_421 1 rfl ?_
  refine j_iconst B (v := 1) dL_law_423 (by decide) ?_
  refine j_iadd B dL_law_424 ?_
  refine j_sld B hX hbl hbA g1 dL_law_425 ?_
  refine j_aload_n B dL_law_426 5 rfl rfl ?_
  refine j_iload B dL_law_427 1 rfl ?_
  refine j_iconst B (v := 2) dL_law_429 (by decide) ?_
  refine j_iadd B dL_law_430 ?_
  refine j_sld B hX hbl hbA g2 dL_law_431 ?_
  refine j_cVi B (S := Unit) 2 [.int (xs (i + 1).toNatClampNeg), .int (xs (i + 2).toNatClampNeg)] (WdC' := fun _ => pgM D cI cZ (fun z => A z ∧ z ≠ o ∧ ∀ k, k < 13 + n → z ≠ ad k) (sp_pack σ (xs (i + 1).toNatClampNeg) (xs (i + 2).toNatClampNeg)).2.2 ρ (pgKB (sp_pack σ (xs (i + 1).toNatClampNeg) (xs (i + 2).toNatClampNeg)).1) md) (fun _ => pgWL D cD cC cI cZ cL A ((sp_pack σ (xs (i + 1).toNatClampNeg) (xs (i + 2).toNatClampNeg)).2.2) n ad o (if (sp_pack σ (xs (i + 1).toNatClampNeg) (xs (i + 2).toNatClampNeg)).1 = 0 then vp_updL f 0 (sp_pack σ (xs (i + 1).toNatClampNeg) (xs (i + 2).toNatClampNeg)).2.1.toInt64 else f) ((sp_pack σ (xs (i + 1).toNatClampNeg) (xs (i + 2).toNatClampNeg)).2.2) ρ (pgKB (sp_pack σ (xs (i + 1).toNatClampNeg) (xs (i + 2).toNatClampNeg)).1) md) (c_X3_pack l D cD cC cI cZ cL (fun z => A z ∧ z ≠ o ∧ ∀ k, k < 13 + n → z ≠ ad k) σ ρ th md n hI (xs (i + 1).toNatClampNeg) (xs (i + 2).toNatClampNeg)) rfl (fun H h => h.2.m) q_603 q_604 q_605 q_3 q_606 hdX3_pack rfl ⟨Nat.le_of_ble_eq_true rfl, Nat.le_of_ble_eq_true rfl⟩ (Nat.le_of_ble_eq_true rfl) dL_law_432 rfl hcl (fun _ h => h.1) (fun _ h => h.new2) (fun _ h => h.2) (fun H H1 u h h1 hz hk => h.rf h1 hk) (fun r2 _ hp2 => ?_)
  refine j_istore B (L' := [(6, .int r2), (5, .int (pgKB (sp_pack σ (xs (i + 1).toNatClampNeg) (xs (i + 2).toNatClampNeg)).1)), (4, .int i), (3, .ref o), (2, .ref (md 0)), (1, .ref (ad 0)), (0, .ref b)]) dL_law_435 (by decide) rfl ?_
  refine j_aload_n B dL_law_437 4 rfl rfl ?_
  refine j_cVi B (S := Unit) 0 [] (WdC' := fun _ => pgM D cI cZ (fun z => A z ∧ z ≠ o ∧ ∀ k, k < 13 + n → z ≠ ad k) (sp_pack σ (xs (i + 1).toNatClampNeg) (xs (i + 2).toNatClampNeg)).2.2 ρ (pgKB (sp_pack σ (xs (i + 1).toNatClampNeg) (xs (i + 2).toNatClampNeg)).1) md) (fun _ => pgWL D cD cC cI cZ cL A ((sp_pack σ (xs (i + 1).toNatClampNeg) (xs (i + 2).toNatClampNeg)).2.2) n ad o (if (sp_pack σ (xs (i + 1).toNatClampNeg) (xs (i + 2).toNatClampNeg)).1 = 0 then vp_updL f 0 (sp_pack σ (xs (i + 1).toNatClampNeg) (xs (i + 2).toNatClampNeg)).2.1.toInt64 else f) ((sp_pack σ (xs (i + 1).toNatClampNeg) (xs (i + 2).toNatClampNeg)).2.2) ρ (pgKB (sp_pack σ (xs (i + 1).toNatClampNeg) (xs (i + 2).toNatClampNeg)).1) md) (c_X3_thrown l D cD cC cI cZ cL (fun z => A z ∧ z ≠ o ∧ ∀ k, k < 13 + n → z ≠ ad k) ((sp_pack σ (xs (i + 1).toNatClampNeg) (xs (i + 2).toNatClampNeg)).2.2) ρ (pgKB (sp_pack σ (xs (i + 1).toNatClampNeg) (xs (i + 2).toNatClampNeg)).1) md) rfl (fun H h => h.2.m) q_565 q_566 q_567 q_3 q_568 hdX3_thrown rfl ⟨Nat.le_of_ble_eq_true rfl, Nat.le_of_ble_eq_true rfl⟩ (Nat.le_of_ble_eq_true rfl) dL_law_438 rfl hcl (fun _ h => h.1) (fun _ h => h.new2) (fun _ h => h.2) (fun H H1 u h h1 hz hk => h.rf h1 hk) (fun r3 _ hp3 => ?_)
  subst hp3
  refine j_iload B dL_law_441 1 rfl ?_
  refine j_icmp_eq B 448 dL_law_443 (by decide) (fun _ => ?_) (fun h => absurd rfl h)
  refine j_iload B dL_law_448 1 rfl ?_
  refine j_if_ne B 465 dL_law_450 (by decide) (fun _ => ?_) (fun h => ?_)
  · refine j_goto B 1760 dL_law_465 (by decide) ?_
    refine j_locals (L' := [(4, .int i), (3, .ref o), (2, .ref (md 0)), (1, .ref (ad 0)), (0, .ref b)]) [2, 3, 4, 5, 6] rfl ?_
    exact kk _ _ _ _ _ _ kp.1 kp.2 rfl
  · have h0 := (pg_kx0 (by have := hsc.1; omega)).2 h
    refine j_aload_n B dL_law_453 3 rfl rfl ?_
    refine j_iconst B (v := 0) dL_law_454 (by decide) ?_
    refine j_lald B (fun H h => h.1.2.1) 4 rfl pg_in01 dL_law_455 ?_
    refine j_iload B dL_law_456 0 rfl ?_
    refine j_i2l B dL_law_458 ?_
    refine j_lcmp B dL_law_459 ?_
    refine j_if_eq B 465 dL_law_460 (by decide) (fun _ => ?_) (fun h9 => absurd (pg_cmp9 h0 (congrArg Int32.toInt64 (hp2 h0).symm)) h9)
    refine j_goto B 1760 dL_law_465 (by decide) ?_
    refine j_locals (L' := [(4, .int i), (3, .ref o), (2, .ref (md 0)), (1, .ref (ad 0)), (0, .ref b)]) [2, 3, 4, 5, 6] rfl ?_
    exact kk _ _ _ _ _ _ kp.1 kp.2 rfl
set_option maxHeartbeats 4000000 in
set_option maxRecDepth 100000 in
/-- case 4: unpack -/
theorem law_unpack {p : Program} {l : Launch} {e : Env} {s : State} {m : MethodId} {args : Array Value} {below : List Frame} {meth : Method} {c : Code} {D : va_G} {cD cC cI cZ cL : ClassId} {A : Nat → Prop} {Q : State → Prop} (hl : l.stackTraces = false) (B : pgB p m c s args meth RL cL_law 7 D (pgTys cD cC cI cZ cL) A) {b L0 : Nat} {xs : Nat → Int32} (hX : va_X b L0 xs s s.heap) (hbl : b < s.heap.size) (hbA : ¬ A b) {i : Int32} (g1 : vp_in (i + 1) L0) (g2 : vp_in (i + 2) L0) (g3 : vp_in (i + 3) L0) {σ : pgSt} {n : Nat} {ad : Nat → Nat} {o : Nat} {f : Nat → Int64} {ρ : Nat → Int32} {th : Int32} {md : Nat → Nat} (hI : pgI n σ) (hR : pgRho σ ρ) {cells slots : Nat} (hcl : cells + 5 ≤ room_1.cells ∧ slots + 30 ≤ room_1.slots)
    (kk : ∀ (σ2 : pgSt) (n2 : Nat) (ad2 : Nat → Nat) (f2 : Nat → Int64) (ρ2 : Nat → Int32) (th2 : Int32), pgI n2 σ2 → pgRho σ2 ρ2 → ad2 0 = ad 0 → pgJ p l e room_1 s m args below meth c 7 A (pgWL D cD cC cI cZ cL A σ2 n2 ad2 o f2 σ2 ρ2 th2 md) (cells + 5) (slots + 30) Q 1760 [(4, .int i), (3, .ref o), (2, .ref (md 0)), (1, .ref (ad 0)), (0, .ref b)] []) : pgJ p l e room_1 s m args below meth c 7 A (pgWL D cD cC cI cZ cL A σ n ad o f σ ρ th md) cells slots Q 468 [(4, .int i), (3, .ref o), (2, .ref (md 0)), (1, .ref (ad 0)), (0, .ref b)] [] := by
  have hsc := @sc_unpack σ (xs (i + 1).toNatClampNeg)
  have kp : pgI n (sp_unpack σ (xs (i + 1).toNatClampNeg)).2.2 ∧ pgRho (sp_unpack σ (xs (i + 1).toNatClampNeg)).2.2 ρ := kp_unpack hI hR
  have hW := c_L_unpack l hl D cD cC cI cZ cL (fun z => A z ∧ ∀ k, k < 14 → z ≠ md k) σ n ad o f hI (xs (i + 1).toNatClampNeg)
  refine j_aload_n B dL_law_468 3 rfl rfl ?_
  refine j_aload_n B dL_law_469 4 rfl rfl ?_
  refine j_iload B dL_law_470 0 rfl ?_
  refine j_iconst B (v := 1) dL_law_472 (by decide) ?_
  refine j_iadd B dL_law_473 ?_
  refine j_sld B hX hbl hbA g1 dL_law_474 ?_
  refine j_aload_n B dL_law_475 1 rfl rfl ?_
  refine j_cWi B (S := Unit) 3 [.ref (ad 0), .int (xs (i + 1).toNatClampNeg), .ref o] (WdC' := fun _ => pgWO D cD cC cL (fun z => A z ∧ ∀ k, k < 14 → z ≠ md k) (sp_unpack σ (xs (i + 1).toNatClampNeg)).2.2 n ad o (if (sp_unpack σ (xs (i + 1).toNatClampNeg)).1 = 0 then vp_updL f 0 (sp_unpack σ (xs (i + 1).toNatClampNeg)).2.1.toInt64 else f)) (fun _ => pgWL D cD cC cI cZ cL A ((sp_unpack σ (xs (i + 1).toNatClampNeg)).2.2) n ad o (if (sp_unpack σ (xs (i + 1).toNatClampNeg)).1 = 0 then vp_updL f 0 (sp_unpack σ (xs (i + 1).toNatClampNeg)).2.1.toInt64 else f) σ ρ th md) hW q_303 q_304 q_0 q_305 hdL_unpack rfl ⟨Nat.le_of_ble_eq_true rfl, Nat.le_of_ble_eq_true rfl⟩ (Nat.le_of_ble_eq_true rfl) dL_law_476 rfl ⟨Nat.le_trans (Nat.add_le_add_left (Nat.le_of_ble_eq_true rfl) _) hcl.1, Nat.le_trans (Nat.add_le_add_left (Nat.le_of_ble_eq_true rfl) _) hcl.2⟩ (fun _ h => h.1) (fun _ h => h.new1) (fun _ h => h.1) (fun H H1 u h h1 hz hk => h.cls h1 hk) (fun r _ hp1 => ?_)
  subst hp1
  refine j_widen (k := cells + 5) (n := slots + 30) (Nat.add_le_add_left (Nat.le_of_ble_eq_true rfl) _) (Nat.add_le_add_left (Nat.le_of_ble_eq_true rfl) _) ?_
  refine j_istore B (L' := [(5, .int (pgKB (sp_unpack σ (xs (i + 1).toNatClampNeg)).1)), (4, .int i), (3, .ref o), (2, .ref (md 0)), (1, .ref (ad 0)), (0, .ref b)]) dL_law_479 (by decide) rfl ?_
  refine j_aload_n B dL_law_481 3 rfl rfl ?_
  refine j_aload_n B dL_law_482 5 rfl rfl ?_
  refine j_iload B dL_law_483 1 rfl ?_
  refine j_iconst B (v := 1) dL_law_485 (by decide) ?_
  refine j_iadd B dL_law_486 ?_
  refine j_sld B hX hbl hbA g1 dL_law_487 ?_
  refine j_cVi B (S := Unit) 1 [.int (xs (i + 1).toNatClampNeg)] (WdC' := fun _ => pgM D cI cZ (fun z => A z ∧ z ≠ o ∧ ∀ k, k < 13 + n → z ≠ ad k) (sp_unpack σ (xs (i + 1).toNatClampNeg)).2.2 ρ (pgKB (sp_unpack σ (xs (i + 1).toNatClampNeg)).1) md) (fun _ => pgWL D cD cC cI cZ cL A ((sp_unpack σ (xs (i + 1).toNatClampNeg)).2.2) n ad o (if (sp_unpack σ (xs (i + 1).toNatClampNeg)).1 = 0 then vp_updL f 0 (sp_unpack σ (xs (i + 1).toNatClampNeg)).2.1.toInt64 else f) ((sp_unpack σ (xs (i + 1).toNatClampNeg)).2.2) ρ (pgKB (sp_unpack σ (xs (i + 1).toNatClampNeg)).1) md) (c_X3_unpack l D cD cC cI cZ cL (fun z => A z ∧ z ≠ o ∧ ∀ k, k < 13 + n → z ≠ ad k) σ ρ th md n hI (xs (i + 1).toNatClampNeg)) rfl (fun H h => h.2.m) q_614 q_615 q_616 q_3 q_617 hdX3_unpack rfl ⟨Nat.le_of_ble_eq_true rfl, Nat.le_of_ble_eq_true rfl⟩ (Nat.le_of_ble_eq_true rfl) dL_law_488 rfl hcl (fun _ h => h.1) (fun _ h => h.new2) (fun _ h => h.2) (fun H H1 u h h1 hz hk => h.rf h1 hk) (fun r2 _ hp2 => ?_)
  refine j_istore B (L' := [(6, .int r2), (5, .int (pgKB (sp_unpack σ (xs (i + 1).toNatClampNeg)).1)), (4, .int i), (3, .ref o), (2, .ref (md 0)), (1, .ref (ad 0)), (0, .ref b)]) dL_law_491 (by decide) rfl ?_
  refine j_aload_n B dL_law_493 4 rfl rfl ?_
  refine j_cVi B (S := Unit) 0 [] (WdC' := fun _ => pgM D cI cZ (fun z => A z ∧ z ≠ o ∧ ∀ k, k < 13 + n → z ≠ ad k) (sp_unpack σ (xs (i + 1).toNatClampNeg)).2.2 ρ (pgKB (sp_unpack σ (xs (i + 1).toNatClampNeg)).1) md) (fun _ => pgWL D cD cC cI cZ cL A ((sp_unpack σ (xs (i + 1).toNatClampNeg)).2.2) n ad o (if (sp_unpack σ (xs (i + 1).toNatClampNeg)).1 = 0 then vp_updL f 0 (sp_unpack σ (xs (i + 1).toNatClampNeg)).2.1.toInt64 else f) ((sp_unpack σ (xs (i + 1).toNatClampNeg)).2.2) ρ (pgKB (sp_unpack σ (xs (i + 1).toNatClampNeg)).1) md) (c_X3_thrown l D cD cC cI cZ cL (fun z => A z ∧ z ≠ o ∧ ∀ k, k < 13 + n → z ≠ ad k) ((sp_unpack σ (xs (i + 1).toNatClampNeg)).2.2) ρ (pgKB (sp_unpack σ (xs (i + 1).toNatClampNeg)).1) md) rfl (fun H h => h.2.m) q_565 q_566 q_567 q_3 q_568 hdX3_thrown rfl ⟨Nat.le_of_ble_eq_true rfl, Nat.le_of_ble_eq_true rfl⟩ (Nat.le_of_ble_eq_true rfl) dL_law_494 rfl hcl (fun _ h => h.1) (fun _ h => h.new2) (fun _ h => h.2) (fun H H1 u h h1 hz hk => h.rf h1 hk) (fun r3 _ hp3 => ?_)
  subst hp3
  refine j_iload B dL_law_497 1 rfl ?_
  refine j_icmp_eq B 504 dL_law_499 (by decide) (fun _ => ?_) (fun h => absurd rfl h)
  refine j_iload B dL_law_504 1 rfl ?_
  refine j_if_ne B 521 dL_law_506 (by decide) (fun _ => ?_) (fun h => ?_)
  · refine j_goto B 1760 dL_law_521 (by decide) ?_
    refine j_locals (L' := [(4, .int i), (3, .ref o), (2, .ref (md 0)), (1, .ref (ad 0)), (0, .ref b)]) [2, 3, 4, 5, 6] rfl ?_
    exact kk _ _ _ _ _ _ kp.1 kp.2 rfl
  · have h0 := (pg_kx0 (by have := hsc.1; omega)).2 h
    refine j_aload_n B dL_law_509 3 rfl rfl ?_
    refine j_iconst B (v := 0) dL_law_510 (by decide) ?_
    refine j_lald B (fun H h => h.1.2.1) 4 rfl pg_in01 dL_law_511 ?_
    refine j_iload B dL_law_512 0 rfl ?_
    refine j_i2l B dL_law_514 ?_
    refine j_lcmp B dL_law_515 ?_
    refine j_if_eq B 521 dL_law_516 (by decide) (fun _ => ?_) (fun h9 => absurd (pg_cmp9 h0 (congrArg Int32.toInt64 (hp2 h0).symm)) h9)
    refine j_goto B 1760 dL_law_521 (by decide) ?_
    refine j_locals (L' := [(4, .int i), (3, .ref o), (2, .ref (md 0)), (1, .ref (ad 0)), (0, .ref b)]) [2, 3, 4, 5, 6] rfl ?_
    exact kk _ _ _ _ _ _ kp.1 kp.2 rfl
set_option maxHeartbeats 4000000 in
set_option maxRecDepth 100000 in
/-- case 5: seal -/
theorem law_seal {p : Program} {l : Launch} {e : Env} {s : State} {m : MethodId} {args : Array Value} {below : List Frame} {meth : Method} {c : Code} {D : va_G} {cD cC cI cZ cL : ClassId} {A : Nat → Prop} {Q : State → Prop} (hl : l.stackTraces = false) (B : pgB p m c s args meth RL cL_law 7 D (pgTys cD cC cI cZ cL) A) {b L0 : Nat} {xs : Nat → Int32} (hX : va_X b L0 xs s s.heap) (hbl : b < s.heap.size) (hbA : ¬ A b) {i : Int32} (g1 : vp_in (i + 1) L0) (g2 : vp_in (i + 2) L0) (g3 : vp_in (i + 3) L0) {σ : pgSt} {n : Nat} {ad : Nat → Nat} {o : Nat} {f : Nat → Int64} {ρ : Nat → Int32} {th : Int32} {md : Nat → Nat} (hI : pgI n σ) (hR : pgRho σ ρ) {cells slots : Nat} (hcl : cells + 5 ≤ room_1.cells ∧ slots + 30 ≤ room_1.slots)
    (kk : ∀ (σ2 : pgSt) (n2 : Nat) (ad2 : Nat → Nat) (f2 : Nat → Int64) (ρ2 : Nat → Int32) (th2 : Int32), pgI n2 σ2 → pgRho σ2 ρ2 → ad2 0 = ad 0 → pgJ p l e room_1 s m args below meth c 7 A (pgWL D cD cC cI cZ cL A σ2 n2 ad2 o f2 σ2 ρ2 th2 md) (cells + 5) (slots + 30) Q 1760 [(4, .int i), (3, .ref o), (2, .ref (md 0)), (1, .ref (ad 0)), (0, .ref b)] []) : pgJ p l e room_1 s m args below meth c 7 A (pgWL D cD cC cI cZ cL A σ n ad o f σ ρ th md) cells slots Q 524 [(4, .int i), (3, .ref o), (2, .ref (md 0)), (1, .ref (ad 0)), (0, .ref b)] [] := by
  have hsc := @sc_seal σ (xs (i + 1).toNatClampNeg)
  have kp : pgI n (sp_seal σ (xs (i + 1).toNatClampNeg)).2.2 ∧ pgRho (sp_seal σ (xs (i + 1).toNatClampNeg)).2.2 (if (sp_seal σ (xs (i + 1).toNatClampNeg)).1 = 0 then upd ρ (ix (σ 13 1)) (pgCnt σ (ix (σ 13 0)) (xs (i + 1).toNatClampNeg)) else ρ) := kp_seal hI hR
  have hW := c_L_seal l hl D cD cC cI cZ cL (fun z => A z ∧ ∀ k, k < 14 → z ≠ md k) σ n ad o f hI (xs (i + 1).toNatClampNeg)
  refine j_aload_n B dL_law_524 3 rfl rfl ?_
  refine j_aload_n B dL_law_525 4 rfl rfl ?_
  refine j_iload B dL_law_526 0 rfl ?_
  refine j_iconst B (v := 1) dL_law_528 (by decide) ?_
  refine j_iadd B dL_law_529 ?_
  refine j_sld B hX hbl hbA g1 dL_law_530 ?_
  refine j_aload_n B dL_law_531 1 rfl rfl ?_
  refine j_cWi B (S := Unit) 3 [.ref (ad 0), .int (xs (i + 1).toNatClampNeg), .ref o] (WdC' := fun _ => pgWO D cD cC cL (fun z => A z ∧ ∀ k, k < 14 → z ≠ md k) (sp_seal σ (xs (i + 1).toNatClampNeg)).2.2 n ad o (if (sp_seal σ (xs (i + 1).toNatClampNeg)).1 = 0 then vp_updL f 0 (sp_seal σ (xs (i + 1).toNatClampNeg)).2.1.toInt64 else f)) (fun _ => pgWL D cD cC cI cZ cL A ((sp_seal σ (xs (i + 1).toNatClampNeg)).2.2) n ad o (if (sp_seal σ (xs (i + 1).toNatClampNeg)).1 = 0 then vp_updL f 0 (sp_seal σ (xs (i + 1).toNatClampNeg)).2.1.toInt64 else f) σ ρ th md) hW q_311 q_312 q_0 q_313 hdL_seal rfl ⟨Nat.le_of_ble_eq_true rfl, Nat.le_of_ble_eq_true rfl⟩ (Nat.le_of_ble_eq_true rfl) dL_law_532 rfl ⟨Nat.le_trans (Nat.add_le_add_left (Nat.le_of_ble_eq_true rfl) _) hcl.1, Nat.le_trans (Nat.add_le_add_left (Nat.le_of_ble_eq_true rfl) _) hcl.2⟩ (fun _ h => h.1) (fun _ h => h.new1) (fun _ h => h.1) (fun H H1 u h h1 hz hk => h.cls h1 hk) (fun r _ hp1 => ?_)
  subst hp1
  refine j_widen (k := cells + 5) (n := slots + 30) (Nat.add_le_add_left (Nat.le_of_ble_eq_true rfl) _) (Nat.add_le_add_left (Nat.le_of_ble_eq_true rfl) _) ?_
  refine j_istore B (L' := [(5, .int (pgKB (sp_seal σ (xs (i + 1).toNatClampNeg)).1)), (4, .int i), (3, .ref o), (2, .ref (md 0)), (1, .ref (ad 0)), (0, .ref b)]) dL_law_535 (by decide) rfl ?_
  refine j_aload_n B dL_law_537 3 rfl rfl ?_
  refine j_aload_n B dL_law_538 5 rfl rfl ?_
  refine j_iload B dL_law_539 1 rfl ?_
  refine j_iconst B (v := 1) dL_law_541 (by decide) ?_
  refine j_iadd B dL_law_542 ?_
  refine j_sld B hX hbl hbA g1 dL_law_543 ?_
  refine j_cVi B (S := Unit) 1 [.int (xs (i + 1).toNatClampNeg)] (WdC' := fun _ => pgM D cI cZ (fun z => A z ∧ z ≠ o ∧ ∀ k, k < 13 + n → z ≠ ad k) (sp_seal σ (xs (i + 1).toNatClampNeg)).2.2 (if (sp_seal σ (xs (i + 1).toNatClampNeg)).1 = 0 then upd ρ (ix (σ 13 1)) (pgCnt σ (ix (σ 13 0)) (xs (i + 1).toNatClampNeg)) else ρ) (pgKB (sp_seal σ (xs (i + 1).toNatClampNeg)).1) md) (fun _ => pgWL D cD cC cI cZ cL A ((sp_seal σ (xs (i + 1).toNatClampNeg)).2.2) n ad o (if (sp_seal σ (xs (i + 1).toNatClampNeg)).1 = 0 then vp_updL f 0 (sp_seal σ (xs (i + 1).toNatClampNeg)).2.1.toInt64 else f) ((sp_seal σ (xs (i + 1).toNatClampNeg)).2.2) (if (sp_seal σ (xs (i + 1).toNatClampNeg)).1 = 0 then upd ρ (ix (σ 13 1)) (pgCnt σ (ix (σ 13 0)) (xs (i + 1).toNatClampNeg)) else ρ) (pgKB (sp_seal σ (xs (i + 1).toNatClampNeg)).1) md) (c_X3_seal l D cD cC cI cZ cL (fun z => A z ∧ z ≠ o ∧ ∀ k, k < 13 + n → z ≠ ad k) σ ρ th md n hI (xs (i + 1).toNatClampNeg)) rfl (fun H h => h.2.m) q_618 q_619 q_620 q_3 q_621 hdX3_seal rfl ⟨Nat.le_of_ble_eq_true rfl, Nat.le_of_ble_eq_true rfl⟩ (Nat.le_of_ble_eq_true rfl) dL_law_544 rfl hcl (fun _ h => h.1) (fun _ h => h.new2) (fun _ h => h.2) (fun H H1 u h h1 hz hk => h.rf h1 hk) (fun r2 _ hp2 => ?_)
  refine j_istore B (L' := [(6, .int r2), (5, .int (pgKB (sp_seal σ (xs (i + 1).toNatClampNeg)).1)), (4, .int i), (3, .ref o), (2, .ref (md 0)), (1, .ref (ad 0)), (0, .ref b)]) dL_law_547 (by decide) rfl ?_
  refine j_aload_n B dL_law_549 4 rfl rfl ?_
  refine j_cVi B (S := Unit) 0 [] (WdC' := fun _ => pgM D cI cZ (fun z => A z ∧ z ≠ o ∧ ∀ k, k < 13 + n → z ≠ ad k) (sp_seal σ (xs (i + 1).toNatClampNeg)).2.2 (if (sp_seal σ (xs (i + 1).toNatClampNeg)).1 = 0 then upd ρ (ix (σ 13 1)) (pgCnt σ (ix (σ 13 0)) (xs (i + 1).toNatClampNeg)) else ρ) (pgKB (sp_seal σ (xs (i + 1).toNatClampNeg)).1) md) (fun _ => pgWL D cD cC cI cZ cL A ((sp_seal σ (xs (i + 1).toNatClampNeg)).2.2) n ad o (if (sp_seal σ (xs (i + 1).toNatClampNeg)).1 = 0 then vp_updL f 0 (sp_seal σ (xs (i + 1).toNatClampNeg)).2.1.toInt64 else f) ((sp_seal σ (xs (i + 1).toNatClampNeg)).2.2) (if (sp_seal σ (xs (i + 1).toNatClampNeg)).1 = 0 then upd ρ (ix (σ 13 1)) (pgCnt σ (ix (σ 13 0)) (xs (i + 1).toNatClampNeg)) else ρ) (pgKB (sp_seal σ (xs (i + 1).toNatClampNeg)).1) md) (c_X3_thrown l D cD cC cI cZ cL (fun z => A z ∧ z ≠ o ∧ ∀ k, k < 13 + n → z ≠ ad k) ((sp_seal σ (xs (i + 1).toNatClampNeg)).2.2) (if (sp_seal σ (xs (i + 1).toNatClampNeg)).1 = 0 then upd ρ (ix (σ 13 1)) (pgCnt σ (ix (σ 13 0)) (xs (i + 1).toNatClampNeg)) else ρ) (pgKB (sp_seal σ (xs (i + 1).toNatClampNeg)).1) md) rfl (fun H h => h.2.m) q_565 q_566 q_567 q_3 q_568 hdX3_thrown rfl ⟨Nat.le_of_ble_eq_true rfl, Nat.le_of_ble_eq_true rfl⟩ (Nat.le_of_ble_eq_true rfl) dL_law_550 rfl hcl (fun _ h => h.1) (fun _ h => h.new2) (fun _ h => h.2) (fun H H1 u h h1 hz hk => h.rf h1 hk) (fun r3 _ hp3 => ?_)
  subst hp3
  refine j_iload B dL_law_553 1 rfl ?_
  refine j_icmp_eq B 560 dL_law_555 (by decide) (fun _ => ?_) (fun h => absurd rfl h)
  refine j_iload B dL_law_560 1 rfl ?_
  refine j_if_ne B 577 dL_law_562 (by decide) (fun _ => ?_) (fun h => ?_)
  · refine j_goto B 1760 dL_law_577 (by decide) ?_
    refine j_locals (L' := [(4, .int i), (3, .ref o), (2, .ref (md 0)), (1, .ref (ad 0)), (0, .ref b)]) [2, 3, 4, 5, 6] rfl ?_
    exact kk _ _ _ _ _ _ kp.1 kp.2 rfl
  · have h0 := (pg_kx0 (by have := hsc.1; omega)).2 h
    refine j_aload_n B dL_law_565 3 rfl rfl ?_
    refine j_iconst B (v := 0) dL_law_566 (by decide) ?_
    refine j_lald B (fun H h => h.1.2.1) 4 rfl pg_in01 dL_law_567 ?_
    refine j_iload B dL_law_568 0 rfl ?_
    refine j_i2l B dL_law_570 ?_
    refine j_lcmp B dL_law_571 ?_
    refine j_if_eq B 577 dL_law_572 (by decide) (fun _ => ?_) (fun h9 => absurd (pg_cmp9 h0 (congrArg Int32.toInt64 (hp2 h0).symm)) h9)
    refine j_goto B 1760 dL_law_577 (by decide) ?_
    refine j_locals (L' := [(4, .int i), (3, .ref o), (2, .ref (md 0)), (1, .ref (ad 0)), (0, .ref b)]) [2, 3, 4, 5, 6] rfl ?_
    exact kk _ _ _ _ _ _ kp.1 kp.2 rfl
set_option maxHeartbeats 4000000 in
set_option maxRecDepth 100000 in
/-- case 6: open -/
theorem law_open {p : Program} {l : Launch} {e : Env} {s : State} {m : MethodId} {args : Array Value} {below : List Frame} {meth : Method} {c : Code} {D : va_G} {cD cC cI cZ cL : ClassId} {A : Nat → Prop} {Q : State → Prop} (hl : l.stackTraces = false) (B : pgB p m c s args meth RL cL_law 7 D (pgTys cD cC cI cZ cL) A) {b L0 : Nat} {xs : Nat → Int32} (hX : va_X b L0 xs s s.heap) (hbl : b < s.heap.size) (hbA : ¬ A b) {i : Int32} (g1 : vp_in (i + 1) L0) (g2 : vp_in (i + 2) L0) (g3 : vp_in (i + 3) L0) {σ : pgSt} {n : Nat} {ad : Nat → Nat} {o : Nat} {f : Nat → Int64} {ρ : Nat → Int32} {th : Int32} {md : Nat → Nat} (hI : pgI n σ) (hR : pgRho σ ρ) {cells slots : Nat} (hcl : cells + 5 ≤ room_1.cells ∧ slots + 30 ≤ room_1.slots)
    (kk : ∀ (σ2 : pgSt) (n2 : Nat) (ad2 : Nat → Nat) (f2 : Nat → Int64) (ρ2 : Nat → Int32) (th2 : Int32), pgI n2 σ2 → pgRho σ2 ρ2 → ad2 0 = ad 0 → pgJ p l e room_1 s m args below meth c 7 A (pgWL D cD cC cI cZ cL A σ2 n2 ad2 o f2 σ2 ρ2 th2 md) (cells + 5) (slots + 30) Q 1760 [(4, .int i), (3, .ref o), (2, .ref (md 0)), (1, .ref (ad 0)), (0, .ref b)] []) : pgJ p l e room_1 s m args below meth c 7 A (pgWL D cD cC cI cZ cL A σ n ad o f σ ρ th md) cells slots Q 580 [(4, .int i), (3, .ref o), (2, .ref (md 0)), (1, .ref (ad 0)), (0, .ref b)] [] := by
  have hsc := @sc_open σ (xs (i + 1).toNatClampNeg) (xs (i + 2).toNatClampNeg)
  have kp : pgI n (sp_open σ (xs (i + 1).toNatClampNeg) (xs (i + 2).toNatClampNeg)).2.2 ∧ pgRho (sp_open σ (xs (i + 1).toNatClampNeg) (xs (i + 2).toNatClampNeg)).2.2 ρ := kp_open hI hR
  have hW := c_L_open l hl D cD cC cI cZ cL (fun z => A z ∧ ∀ k, k < 14 → z ≠ md k) σ n ad o f hI (xs (i + 1).toNatClampNeg) (xs (i + 2).toNatClampNeg)
  refine j_aload_n B dL_law_580 3 rfl rfl ?_
  refine j_aload_n B dL_law_581 4 rfl rfl ?_
  refine j_iload B dL_law_582 0 rfl ?_
  refine j_iconst B (v := 1) dL_law_584 (by decide) ?_
  refine j_iadd B dL_law_585 ?_
  refine j_sld B hX hbl hbA g1 dL_law_586 ?_
  refine j_aload_n B dL_law_587 4 rfl rfl ?_
  refine j_iload B dL_law_588 0 rfl ?_
  refine j_iconst B (v := 2) dL_law_590 (by decide) ?_
  refine j_iadd B dL_law_591 ?_
  refine j_sld B hX hbl hbA g2 dL_law_592 ?_
  refine j_aload_n B dL_law_593 1 rfl rfl ?_
  refine j_cWi B (S := Unit) 4 [.ref (ad 0), .int (xs (i + 1).toNatClampNeg), .int (xs (i + 2).toNatClampNeg), .ref o] (WdC' := fun _ => pgWO D cD cC cL (fun z => A z ∧ ∀ k, k < 14 → z ≠ md k) (sp_open σ (xs (i + 1).toNatClampNeg) (xs (i + 2).toNatClampNeg)).2.2 n ad o (if (sp_open σ (xs (i + 1).toNatClampNeg) (xs (i + 2).toNatClampNeg)).1 = 0 then vp_updL f 0 (sp_open σ (xs (i + 1).toNatClampNeg) (xs (i + 2).toNatClampNeg)).2.1.toInt64 else f)) (fun _ => pgWL D cD cC cI cZ cL A ((sp_open σ (xs (i + 1).toNatClampNeg) (xs (i + 2).toNatClampNeg)).2.2) n ad o (if (sp_open σ (xs (i + 1).toNatClampNeg) (xs (i + 2).toNatClampNeg)).1 = 0 then vp_updL f 0 (sp_open σ (xs (i + 1).toNatClampNeg) (xs (i + 2).toNatClampNeg)).2.1.toInt64 else f) σ ρ th md) hW q_319 q_320 q_0 q_321 hdL_open rfl ⟨Nat.le_of_ble_eq_true rfl, Nat.le_of_ble_eq_true rfl⟩ (Nat.le_of_ble_eq_true rfl) dL_law_594 rfl ⟨Nat.le_trans (Nat.add_le_add_left (Nat.le_of_ble_eq_true rfl) _) hcl.1, Nat.le_trans (Nat.add_le_add_left (Nat.le_of_ble_eq_true rfl) _) hcl.2⟩ (fun _ h => h.1) (fun _ h => h.new1) (fun _ h => h.1) (fun H H1 u h h1 hz hk => h.cls h1 hk) (fun r _ hp1 => ?_)
  subst hp1
  refine j_widen (k := cells + 5) (n := slots + 30) (Nat.add_le_add_left (Nat.le_of_ble_eq_true rfl) _) (Nat.add_le_add_left (Nat.le_of_ble_eq_true rfl) _) ?_
  refine j_istore B (L' := [(5, .int (nI (sp_open σ (xs (i + 1).toNatClampNeg) (xs (i + 2).toNatClampNeg)).1)), (4, .int i), (3, .ref o), (2, .ref (md 0)), (1, .ref (ad 0)), (0, .ref b)]) dL_law_597 (by decide) rfl ?_
  refine j_aload_n B dL_law_599 3 rfl rfl ?_
  refine j_aload_n B dL_law_600 5 rfl rfl ?_
  refine j_iload B dL_law_601 1 rfl ?_
  refine j_iconst B (v := 1) dL_law_603 (by decide) ?_
  refine j_iadd B dL_law_604 ?_
  refine j_sld B hX hbl hbA g1 dL_law_605 ?_
  refine j_aload_n B dL_law_606 5 rfl rfl ?_
  refine j_iload B dL_law_607 1 rfl ?_
  refine j_iconst B (v := 2) dL_law_609 (by decide) ?_
  refine j_iadd B dL_law_610 ?_
  refine j_sld B hX hbl hbA g2 dL_law_611 ?_
  refine j_cVi B (S := Unit) 2 [.int (xs (i + 1).toNatClampNeg), .int (xs (i + 2).toNatClampNeg)] (WdC' := fun _ => pgM D cI cZ (fun z => A z ∧ z ≠ o ∧ ∀ k, k < 13 + n → z ≠ ad k) (sp_open σ (xs (i + 1).toNatClampNeg) (xs (i + 2).toNatClampNeg)).2.2 ρ (nI (sp_open σ (xs (i + 1).toNatClampNeg) (xs (i + 2).toNatClampNeg)).1) md) (fun _ => pgWL D cD cC cI cZ cL A ((sp_open σ (xs (i + 1).toNatClampNeg) (xs (i + 2).toNatClampNeg)).2.2) n ad o (if (sp_open σ (xs (i + 1).toNatClampNeg) (xs (i + 2).toNatClampNeg)).1 = 0 then vp_updL f 0 (sp_open σ (xs (i + 1).toNatClampNeg) (xs (i + 2).toNatClampNeg)).2.1.toInt64 else f) ((sp_open σ (xs (i + 1).toNatClampNeg) (xs (i + 2).toNatClampNeg)).2.2) ρ (nI (sp_open σ (xs (i + 1).toNatClampNeg) (xs (i + 2).toNatClampNeg)).1) md) (c_X3_open l D cD cC cI cZ cL (fun z => A z ∧ z ≠ o ∧ ∀ k, k < 13 + n → z ≠ ad k) σ ρ th md n hI (xs (i + 1).toNatClampNeg) (xs (i + 2).toNatClampNeg) hR) rfl (fun H h => h.2.m) q_622 q_623 q_624 q_3 q_625 hdX3_open rfl ⟨Nat.le_of_ble_eq_true rfl, Nat.le_of_ble_eq_true rfl⟩ (Nat.le_of_ble_eq_true rfl) dL_law_612 rfl hcl (fun _ h => h.1) (fun _ h => h.new2) (fun _ h => h.2) (fun H H1 u h h1 hz hk => h.rf h1 hk) (fun r2 _ hp2 => ?_)
  refine j_istore B (L' := [(6, .int r2), (5, .int (nI (sp_open σ (xs (i + 1).toNatClampNeg) (xs (i + 2).toNatClampNeg)).1)), (4, .int i), (3, .ref o), (2, .ref (md 0)), (1, .ref (ad 0)), (0, .ref b)]) dL_law_615 (by decide) rfl ?_
  refine j_aload_n B dL_law_617 4 rfl rfl ?_
  refine j_cVi B (S := Unit) 0 [] (WdC' := fun _ => pgM D cI cZ (fun z => A z ∧ z ≠ o ∧ ∀ k, k < 13 + n → z ≠ ad k) (sp_open σ (xs (i + 1).toNatClampNeg) (xs (i + 2).toNatClampNeg)).2.2 ρ (nI (sp_open σ (xs (i + 1).toNatClampNeg) (xs (i + 2).toNatClampNeg)).1) md) (fun _ => pgWL D cD cC cI cZ cL A ((sp_open σ (xs (i + 1).toNatClampNeg) (xs (i + 2).toNatClampNeg)).2.2) n ad o (if (sp_open σ (xs (i + 1).toNatClampNeg) (xs (i + 2).toNatClampNeg)).1 = 0 then vp_updL f 0 (sp_open σ (xs (i + 1).toNatClampNeg) (xs (i + 2).toNatClampNeg)).2.1.toInt64 else f) ((sp_open σ (xs (i + 1).toNatClampNeg) (xs (i + 2).toNatClampNeg)).2.2) ρ (nI (sp_open σ (xs (i + 1).toNatClampNeg) (xs (i + 2).toNatClampNeg)).1) md) (c_X3_thrown l D cD cC cI cZ cL (fun z => A z ∧ z ≠ o ∧ ∀ k, k < 13 + n → z ≠ ad k) ((sp_open σ (xs (i + 1).toNatClampNeg) (xs (i + 2).toNatClampNeg)).2.2) ρ (nI (sp_open σ (xs (i + 1).toNatClampNeg) (xs (i + 2).toNatClampNeg)).1) md) rfl (fun H h => h.2.m) q_565 q_566 q_567 q_3 q_568 hdX3_thrown rfl ⟨Nat.le_of_ble_eq_true rfl, Nat.le_of_ble_eq_true rfl⟩ (Nat.le_of_ble_eq_true rfl) dL_law_618 rfl hcl (fun _ h => h.1) (fun _ h => h.new2) (fun _ h => h.2) (fun H H1 u h h1 hz hk => h.rf h1 hk) (fun r3 _ hp3 => ?_)
  subst hp3
  refine j_iload B dL_law_621 1 rfl ?_
  refine j_icmp_eq B 628 dL_law_623 (by decide) (fun _ => ?_) (fun h => absurd rfl h)
  refine j_iload B dL_law_628 1 rfl ?_
  refine j_if_ne B 645 dL_law_630 (by decide) (fun _ => ?_) (fun h => ?_)
  · refine j_goto B 1760 dL_law_645 (by decide) ?_
    refine j_locals (L' := [(4, .int i), (3, .ref o), (2, .ref (md 0)), (1, .ref (ad 0)), (0, .ref b)]) [2, 3, 4, 5, 6] rfl ?_
    exact kk _ _ _ _ _ _ kp.1 kp.2 rfl
  · have h0 := (pg_kx0 (by have := hsc.1; omega)).1 h
    refine j_aload_n B dL_law_633 3 rfl rfl ?_
    refine j_iconst B (v := 0) dL_law_634 (by decide) ?_
    refine j_lald B (fun H h => h.1.2.1) 4 rfl pg_in01 dL_law_635 ?_
    refine j_iload B dL_law_636 0 rfl ?_
    refine j_i2l B dL_law_638 ?_
    refine j_lcmp B dL_law_639 ?_
    refine j_if_eq B 645 dL_law_640 (by decide) (fun _ => ?_) (fun h9 => absurd (pg_cmp9 h0 (congrArg Int32.toInt64 (hp2 h0).symm)) h9)
    refine j_goto B 1760 dL_law_645 (by decide) ?_
    refine j_locals (L' := [(4, .int i), (3, .ref o), (2, .ref (md 0)), (1, .ref (ad 0)), (0, .ref b)]) [2, 3, 4, 5, 6] rfl ?_
    exact kk _ _ _ _ _ _ kp.1 kp.2 rfl
set_option maxHeartbeats 4000000 in
set_option maxRecDepth 100000 in
/-- case 7: carry -/
theorem law_carry {p : Program} {l : Launch} {e : Env} {s : State} {m : MethodId} {args : Array Value} {below : List Frame} {meth : Method} {c : Code} {D : va_G} {cD cC cI cZ cL : ClassId} {A : Nat → Prop} {Q : State → Prop} (hl : l.stackTraces = false) (B : pgB p m c s args meth RL cL_law 7 D (pgTys cD cC cI cZ cL) A) {b L0 : Nat} {xs : Nat → Int32} (hX : va_X b L0 xs s s.heap) (hbl : b < s.heap.size) (hbA : ¬ A b) {i : Int32} (g1 : vp_in (i + 1) L0) (g2 : vp_in (i + 2) L0) (g3 : vp_in (i + 3) L0) {σ : pgSt} {n : Nat} {ad : Nat → Nat} {o : Nat} {f : Nat → Int64} {ρ : Nat → Int32} {th : Int32} {md : Nat → Nat} (hI : pgI n σ) (hR : pgRho σ ρ) {cells slots : Nat} (hcl : cells + 5 ≤ room_1.cells ∧ slots + 30 ≤ room_1.slots)
    (kk : ∀ (σ2 : pgSt) (n2 : Nat) (ad2 : Nat → Nat) (f2 : Nat → Int64) (ρ2 : Nat → Int32) (th2 : Int32), pgI n2 σ2 → pgRho σ2 ρ2 → ad2 0 = ad 0 → pgJ p l e room_1 s m args below meth c 7 A (pgWL D cD cC cI cZ cL A σ2 n2 ad2 o f2 σ2 ρ2 th2 md) (cells + 5) (slots + 30) Q 1760 [(4, .int i), (3, .ref o), (2, .ref (md 0)), (1, .ref (ad 0)), (0, .ref b)] []) : pgJ p l e room_1 s m args below meth c 7 A (pgWL D cD cC cI cZ cL A σ n ad o f σ ρ th md) cells slots Q 648 [(4, .int i), (3, .ref o), (2, .ref (md 0)), (1, .ref (ad 0)), (0, .ref b)] [] := by
  have hsc := @sc_carry σ (xs (i + 1).toNatClampNeg) (xs (i + 2).toNatClampNeg)
  have kp : pgI n (sp_carry σ (xs (i + 1).toNatClampNeg) (xs (i + 2).toNatClampNeg)).2.2 ∧ pgRho (sp_carry σ (xs (i + 1).toNatClampNeg) (xs (i + 2).toNatClampNeg)).2.2 ρ := kp_carry hI hR
  have hW := c_L_carry l hl D cD cC cI cZ cL (fun z => A z ∧ ∀ k, k < 14 → z ≠ md k) σ n ad o f hI (xs (i + 1).toNatClampNeg) (xs (i + 2).toNatClampNeg)
  refine j_aload_n B dL_law_648 3 rfl rfl ?_
  refine j_aload_n B dL_law_649 4 rfl rfl ?_
  refine j_iload B dL_law_650 0 rfl ?_
  refine j_iconst B (v := 1) dL_law_652 (by decide) ?_
  refine j_iadd B dL_law_653 ?_
  refine j_sld B hX hbl hbA g1 dL_law_654 ?_
  refine j_aload_n B dL_law_655 4 rfl rfl ?_
  refine j_iload B dL_law_656 0 rfl ?_
  refine j_iconst B (v := 2) dL_law_658 (by decide) ?_
  refine j_iadd B dL_law_659 ?_
  refine j_sld B hX hbl hbA g2 dL_law_660 ?_
  refine j_aload_n B dL_law_661 1 rfl rfl ?_
  refine j_cWi B (S := Unit) 4 [.ref (ad 0), .int (xs (i + 1).toNatClampNeg), .int (xs (i + 2).toNatClampNeg), .ref o] (WdC' := fun _ => pgWO D cD cC cL (fun z => A z ∧ ∀ k, k < 14 → z ≠ md k) (sp_carry σ (xs (i + 1).toNatClampNeg) (xs (i + 2).toNatClampNeg)).2.2 n ad o (if (sp_carry σ (xs (i + 1).toNatClampNeg) (xs (i + 2).toNatClampNeg)).1 = 0 then vp_updL f 0 (sp_carry σ (xs (i + 1).toNatClampNeg) (xs (i + 2).toNatClampNeg)).2.1.toInt64 else f)) (fun _ => pgWL D cD cC cI cZ cL A ((sp_carry σ (xs (i + 1).toNatClampNeg) (xs (i + 2).toNatClampNeg)).2.2) n ad o (if (sp_carry σ (xs (i + 1).toNatClampNeg) (xs (i + 2).toNatClampNeg)).1 = 0 then vp_updL f 0 (sp_carry σ (xs (i + 1).toNatClampNeg) (xs (i + 2).toNatClampNeg)).2.1.toInt64 else f) σ ρ th md) hW q_328 q_329 q_0 q_330 hdL_carry rfl ⟨Nat.le_of_ble_eq_true rfl, Nat.le_of_ble_eq_true rfl⟩ (Nat.le_of_ble_eq_true rfl) dL_law_662 rfl ⟨Nat.le_trans (Nat.add_le_add_left (Nat.le_of_ble_eq_true rfl) _) hcl.1, Nat.le_trans (Nat.add_le_add_left (Nat.le_of_ble_eq_true rfl) _) hcl.2⟩ (fun _ h => h.1) (fun _ h => h.new1) (fun _ h => h.1) (fun H H1 u h h1 hz hk => h.cls h1 hk) (fun r _ hp1 => ?_)
  subst hp1
  refine j_widen (k := cells + 5) (n := slots + 30) (Nat.add_le_add_left (Nat.le_of_ble_eq_true rfl) _) (Nat.add_le_add_left (Nat.le_of_ble_eq_true rfl) _) ?_
  refine j_istore B (L' := [(5, .int (nI (sp_carry σ (xs (i + 1).toNatClampNeg) (xs (i + 2).toNatClampNeg)).1)), (4, .int i), (3, .ref o), (2, .ref (md 0)), (1, .ref (ad 0)), (0, .ref b)]) dL_law_665 (by decide) rfl ?_
  refine j_aload_n B dL_law_667 3 rfl rfl ?_
  refine j_aload_n B dL_law_668 5 rfl rfl ?_
  refine j_iload B dL_law_669 1 rfl ?_
  refine j_iconst B (v := 1) dL_law_671 (by decide) ?_
  refine j_iadd B dL_law_672 ?_
  refine j_sld B hX hbl hbA g1 dL_law_673 ?_
  refine j_aload_n B dL_law_674 5 rfl rfl ?_
  refine j_iload B dL_law_675 1 rfl ?_
  refine j_iconst B (v := 2) dL_law_677 (by decide) ?_
  refine j_iadd B dL_law_678 ?_
  refine j_sld B hX hbl hbA g2 dL_law_679 ?_
  refine j_cVi B (S := Unit) 2 [.int (xs (i + 1).toNatClampNeg), .int (xs (i + 2).toNatClampNeg)] (WdC' := fun _ => pgM D cI cZ (fun z => A z ∧ z ≠ o ∧ ∀ k, k < 13 + n → z ≠ ad k) (sp_carry σ (xs (i + 1).toNatClampNeg) (xs (i + 2).toNatClampNeg)).2.2 ρ (nI (sp_carry σ (xs (i + 1).toNatClampNeg) (xs (i + 2).toNatClampNeg)).1) md) (fun _ => pgWL D cD cC cI cZ cL A ((sp_carry σ (xs (i + 1).toNatClampNeg) (xs (i + 2).toNatClampNeg)).2.2) n ad o (if (sp_carry σ (xs (i + 1).toNatClampNeg) (xs (i + 2).toNatClampNeg)).1 = 0 then vp_updL f 0 (sp_carry σ (xs (i + 1).toNatClampNeg) (xs (i + 2).toNatClampNeg)).2.1.toInt64 else f) ((sp_carry σ (xs (i + 1).toNatClampNeg) (xs (i + 2).toNatClampNeg)).2.2) ρ (nI (sp_carry σ (xs (i + 1).toNatClampNeg) (xs (i + 2).toNatClampNeg)).1) md) (c_X3_carry l D cD cC cI cZ cL (fun z => A z ∧ z ≠ o ∧ ∀ k, k < 13 + n → z ≠ ad k) σ ρ th md n hI (xs (i + 1).toNatClampNeg) (xs (i + 2).toNatClampNeg)) rfl (fun H h => h.2.m) q_626 q_627 q_628 q_3 q_629 hdX3_carry rfl ⟨Nat.le_of_ble_eq_true rfl, Nat.le_of_ble_eq_true rfl⟩ (Nat.le_of_ble_eq_true rfl) dL_law_680 rfl hcl (fun _ h => h.1) (fun _ h => h.new2) (fun _ h => h.2) (fun H H1 u h h1 hz hk => h.rf h1 hk) (fun r2 _ hp2 => ?_)
  refine j_istore B (L' := [(6, .int r2), (5, .int (nI (sp_carry σ (xs (i + 1).toNatClampNeg) (xs (i + 2).toNatClampNeg)).1)), (4, .int i), (3, .ref o), (2, .ref (md 0)), (1, .ref (ad 0)), (0, .ref b)]) dL_law_683 (by decide) rfl ?_
  refine j_aload_n B dL_law_685 4 rfl rfl ?_
  refine j_cVi B (S := Unit) 0 [] (WdC' := fun _ => pgM D cI cZ (fun z => A z ∧ z ≠ o ∧ ∀ k, k < 13 + n → z ≠ ad k) (sp_carry σ (xs (i + 1).toNatClampNeg) (xs (i + 2).toNatClampNeg)).2.2 ρ (nI (sp_carry σ (xs (i + 1).toNatClampNeg) (xs (i + 2).toNatClampNeg)).1) md) (fun _ => pgWL D cD cC cI cZ cL A ((sp_carry σ (xs (i + 1).toNatClampNeg) (xs (i + 2).toNatClampNeg)).2.2) n ad o (if (sp_carry σ (xs (i + 1).toNatClampNeg) (xs (i + 2).toNatClampNeg)).1 = 0 then vp_updL f 0 (sp_carry σ (xs (i + 1).toNatClampNeg) (xs (i + 2).toNatClampNeg)).2.1.toInt64 else f) ((sp_carry σ (xs (i + 1).toNatClampNeg) (xs (i + 2).toNatClampNeg)).2.2) ρ (nI (sp_carry σ (xs (i + 1).toNatClampNeg) (xs (i + 2).toNatClampNeg)).1) md) (c_X3_thrown l D cD cC cI cZ cL (fun z => A z ∧ z ≠ o ∧ ∀ k, k < 13 + n → z ≠ ad k) ((sp_carry σ (xs (i + 1).toNatClampNeg) (xs (i + 2).toNatClampNeg)).2.2) ρ (nI (sp_carry σ (xs (i + 1).toNatClampNeg) (xs (i + 2).toNatClampNeg)).1) md) rfl (fun H h => h.2.m) q_565 q_566 q_567 q_3 q_568 hdX3_thrown rfl ⟨Nat.le_of_ble_eq_true rfl, Nat.le_of_ble_eq_true rfl⟩ (Nat.le_of_ble_eq_true rfl) dL_law_686 rfl hcl (fun _ h => h.1) (fun _ h => h.new2) (fun _ h => h.2) (fun H H1 u h h1 hz hk => h.rf h1 hk) (fun r3 _ hp3 => ?_)
  subst hp3
  refine j_iload B dL_law_689 1 rfl ?_
  refine j_icmp_eq B 696 dL_law_691 (by decide) (fun _ => ?_) (fun h => absurd rfl h)
  refine j_iload B dL_law_696 1 rfl ?_
  refine j_if_ne B 713 dL_law_698 (by decide) (fun _ => ?_) (fun h => ?_)
  · refine j_goto B 1760 dL_law_713 (by decide) ?_
    refine j_locals (L' := [(4, .int i), (3, .ref o), (2, .ref (md 0)), (1, .ref (ad 0)), (0, .ref b)]) [2, 3, 4, 5, 6] rfl ?_
    exact kk _ _ _ _ _ _ kp.1 kp.2 rfl
  · have h0 := (pg_kx0 (by have := hsc.1; omega)).1 h
    refine j_aload_n B dL_law_701 3 rfl rfl ?_
    refine j_iconst B (v := 0) dL_law_702 (by decide) ?_
    refine j_lald B (fun H h => h.1.2.1) 4 rfl pg_in01 dL_law_703 ?_
    refine j_iload B dL_law_704 0 rfl ?_
    refine j_i2l B dL_law_706 ?_
    refine j_lcmp B dL_law_707 ?_
    refine j_if_eq B 713 dL_law_708 (by decide) (fun _ => ?_) (fun h9 => absurd (pg_cmp9 h0 (congrArg Int32.toInt64 (hp2 h0).symm)) h9)
    refine j_goto B 1760 dL_law_713 (by decide) ?_
    refine j_locals (L' := [(4, .int i), (3, .ref o), (2, .ref (md 0)), (1, .ref (ad 0)), (0, .ref b)]) [2, 3, 4, 5, 6] rfl ?_
    exact kk _ _ _ _ _ _ kp.1 kp.2 rfl
set_option maxHeartbeats 4000000 in
set_option maxRecDepth 100000 in
/-- case 8: wipe -/
theorem law_wipe {p : Program} {l : Launch} {e : Env} {s : State} {m : MethodId} {args : Array Value} {below : List Frame} {meth : Method} {c : Code} {D : va_G} {cD cC cI cZ cL : ClassId} {A : Nat → Prop} {Q : State → Prop} (hl : l.stackTraces = false) (B : pgB p m c s args meth RL cL_law 7 D (pgTys cD cC cI cZ cL) A) {b L0 : Nat} {xs : Nat → Int32} (hX : va_X b L0 xs s s.heap) (hbl : b < s.heap.size) (hbA : ¬ A b) {i : Int32} (g1 : vp_in (i + 1) L0) (g2 : vp_in (i + 2) L0) (g3 : vp_in (i + 3) L0) {σ : pgSt} {n : Nat} {ad : Nat → Nat} {o : Nat} {f : Nat → Int64} {ρ : Nat → Int32} {th : Int32} {md : Nat → Nat} (hI : pgI n σ) (hR : pgRho σ ρ) {cells slots : Nat} (hcl : cells + 5 ≤ room_1.cells ∧ slots + 30 ≤ room_1.slots)
    (kk : ∀ (σ2 : pgSt) (n2 : Nat) (ad2 : Nat → Nat) (f2 : Nat → Int64) (ρ2 : Nat → Int32) (th2 : Int32), pgI n2 σ2 → pgRho σ2 ρ2 → ad2 0 = ad 0 → pgJ p l e room_1 s m args below meth c 7 A (pgWL D cD cC cI cZ cL A σ2 n2 ad2 o f2 σ2 ρ2 th2 md) (cells + 5) (slots + 30) Q 1760 [(4, .int i), (3, .ref o), (2, .ref (md 0)), (1, .ref (ad 0)), (0, .ref b)] []) : pgJ p l e room_1 s m args below meth c 7 A (pgWL D cD cC cI cZ cL A σ n ad o f σ ρ th md) cells slots Q 716 [(4, .int i), (3, .ref o), (2, .ref (md 0)), (1, .ref (ad 0)), (0, .ref b)] [] := by
  have hsc := @sc_wipe σ (xs (i + 1).toNatClampNeg) (xs (i + 2).toNatClampNeg) (xs (i + 3).toNatClampNeg)
  have kp : pgI n (sp_wipe σ (xs (i + 1).toNatClampNeg) (xs (i + 2).toNatClampNeg) (xs (i + 3).toNatClampNeg)).2.2 ∧ pgRho (sp_wipe σ (xs (i + 1).toNatClampNeg) (xs (i + 2).toNatClampNeg) (xs (i + 3).toNatClampNeg)).2.2 ρ := kp_wipe hI hR
  have hW := c_L_wipe l hl D cD cC cI cZ cL (fun z => A z ∧ ∀ k, k < 14 → z ≠ md k) σ n ad o f hI (xs (i + 1).toNatClampNeg) (xs (i + 2).toNatClampNeg) (xs (i + 3).toNatClampNeg)
  refine j_aload_n B dL_law_716 3 rfl rfl ?_
  refine j_aload_n B dL_law_717 4 rfl rfl ?_
  refine j_iload B dL_law_718 0 rfl ?_
  refine j_iconst B (v := 1) dL_law_720 (by decide) ?_
  refine j_iadd B dL_law_721 ?_
  refine j_sld B hX hbl hbA g1 dL_law_722 ?_
  refine j_aload_n B dL_law_723 4 rfl rfl ?_
  refine j_iload B dL_law_724 0 rfl ?_
  refine j_iconst B (v := 2) dL_law_726 (by decide) ?_
  refine j_iadd B dL_law_727 ?_
  refine j_sld B hX hbl hbA g2 dL_law_728 ?_
  refine j_aload_n B dL_law_729 4 rfl rfl ?_
  refine j_iload B dL_law_730 0 rfl ?_
  refine j_iconst B (v := 3) dL_law_732 (by decide) ?_
  refine j_iadd B dL_law_733 ?_
  refine j_sld B hX hbl hbA g3 dL_law_734 ?_
  refine j_aload_n B dL_law_735 1 rfl rfl ?_
  refine j_cWi B (S := Unit) 5 [.ref (ad 0), .int (xs (i + 1).toNatClampNeg), .int (xs (i + 2).toNatClampNeg), .int (xs (i + 3).toNatClampNeg), .ref o] (WdC' := fun _ => pgWO D cD cC cL (fun z => A z ∧ ∀ k, k < 14 → z ≠ md k) (sp_wipe σ (xs (i + 1).toNatClampNeg) (xs (i + 2).toNatClampNeg) (xs (i + 3).toNatClampNeg)).2.2 n ad o (if (sp_wipe σ (xs (i + 1).toNatClampNeg) (xs (i + 2).toNatClampNeg) (xs (i + 3).toNatClampNeg)).1 = 0 then vp_updL f 0 (sp_wipe σ (xs (i + 1).toNatClampNeg) (xs (i + 2).toNatClampNeg) (xs (i + 3).toNatClampNeg)).2.1.toInt64 else f)) (fun _ => pgWL D cD cC cI cZ cL A ((sp_wipe σ (xs (i + 1).toNatClampNeg) (xs (i + 2).toNatClampNeg) (xs (i + 3).toNatClampNeg)).2.2) n ad o (if (sp_wipe σ (xs (i + 1).toNatClampNeg) (xs (i + 2).toNatClampNeg) (xs (i + 3).toNatClampNeg)).1 = 0 then vp_updL f 0 (sp_wipe σ (xs (i + 1).toNatClampNeg) (xs (i + 2).toNatClampNeg) (xs (i + 3).toNatClampNeg)).2.1.toInt64 else f) σ ρ th md) hW q_341 q_342 q_0 q_343 hdL_wipe rfl ⟨Nat.le_of_ble_eq_true rfl, Nat.le_of_ble_eq_true rfl⟩ (Nat.le_of_ble_eq_true rfl) dL_law_736 rfl ⟨Nat.le_trans (Nat.add_le_add_left (Nat.le_of_ble_eq_true rfl) _) hcl.1, Nat.le_trans (Nat.add_le_add_left (Nat.le_of_ble_eq_true rfl) _) hcl.2⟩ (fun _ h => h.1) (fun _ h => h.new1) (fun _ h => h.1) (fun H H1 u h h1 hz hk => h.cls h1 hk) (fun r _ hp1 => ?_)
  subst hp1
  refine j_widen (k := cells + 5) (n := slots + 30) (Nat.add_le_add_left (Nat.le_of_ble_eq_true rfl) _) (Nat.add_le_add_left (Nat.le_of_ble_eq_true rfl) _) ?_
  refine j_istore B (L' := [(5, .int (nI (sp_wipe σ (xs (i + 1).toNatClampNeg) (xs (i + 2).toNatClampNeg) (xs (i + 3).toNatClampNeg)).1)), (4, .int i), (3, .ref o), (2, .ref (md 0)), (1, .ref (ad 0)), (0, .ref b)]) dL_law_739 (by decide) rfl ?_
  refine j_aload_n B dL_law_741 3 rfl rfl ?_
  refine j_aload_n B dL_law_742 5 rfl rfl ?_
  refine j_iload B dL_law_743 1 rfl ?_
  refine j_iconst B (v := 1) dL_law_745 (by decide) ?_
  refine j_iadd B dL_law_746 ?_
  refine j_sld B hX hbl hbA g1 dL_law_747 ?_
  refine j_aload_n B dL_law_748 5 rfl rfl ?_
  refine j_iload B dL_law_749 1 rfl ?_
  refine j_iconst B (v := 2) dL_law_751 (by decide) ?_
  refine j_iadd B dL_law_752 ?_
  refine j_sld B hX hbl hbA g2 dL_law_753 ?_
  refine j_aload_n B dL_law_754 5 rfl rfl ?_
  refine j_iload B dL_law_755 1 rfl ?_
  refine j_iconst B (v := 3) dL_law_757 (by decide) ?_
  refine j_iadd B dL_law_758 ?_
  refine j_sld B hX hbl hbA g3 dL_law_759 ?_
  refine j_cVi B (S := Unit) 3 [.int (xs (i + 1).toNatClampNeg), .int (xs (i + 2).toNatClampNeg), .int (xs (i + 3).toNatClampNeg)] (WdC' := fun _ => pgM D cI cZ (fun z => A z ∧ z ≠ o ∧ ∀ k, k < 13 + n → z ≠ ad k) (sp_wipe σ (xs (i + 1).toNatClampNeg) (xs (i + 2).toNatClampNeg) (xs (i + 3).toNatClampNeg)).2.2 ρ (nI (sp_wipe σ (xs (i + 1).toNatClampNeg) (xs (i + 2).toNatClampNeg) (xs (i + 3).toNatClampNeg)).1) md) (fun _ => pgWL D cD cC cI cZ cL A ((sp_wipe σ (xs (i + 1).toNatClampNeg) (xs (i + 2).toNatClampNeg) (xs (i + 3).toNatClampNeg)).2.2) n ad o (if (sp_wipe σ (xs (i + 1).toNatClampNeg) (xs (i + 2).toNatClampNeg) (xs (i + 3).toNatClampNeg)).1 = 0 then vp_updL f 0 (sp_wipe σ (xs (i + 1).toNatClampNeg) (xs (i + 2).toNatClampNeg) (xs (i + 3).toNatClampNeg)).2.1.toInt64 else f) ((sp_wipe σ (xs (i + 1).toNatClampNeg) (xs (i + 2).toNatClampNeg) (xs (i + 3).toNatClampNeg)).2.2) ρ (nI (sp_wipe σ (xs (i + 1).toNatClampNeg) (xs (i + 2).toNatClampNeg) (xs (i + 3).toNatClampNeg)).1) md) (c_X3_wipe l D cD cC cI cZ cL (fun z => A z ∧ z ≠ o ∧ ∀ k, k < 13 + n → z ≠ ad k) σ ρ th md n hI (xs (i + 1).toNatClampNeg) (xs (i + 2).toNatClampNeg) (xs (i + 3).toNatClampNeg)) rfl (fun H h => h.2.m) q_630 q_631 q_632 q_3 q_633 hdX3_wipe rfl ⟨Nat.le_of_ble_eq_true rfl, Nat.le_of_ble_eq_true rfl⟩ (Nat.le_of_ble_eq_true rfl) dL_law_760 rfl hcl (fun _ h => h.1) (fun _ h => h.new2) (fun _ h => h.2) (fun H H1 u h h1 hz hk => h.rf h1 hk) (fun r2 _ hp2 => ?_)
  refine j_istore B (L' := [(6, .int r2), (5, .int (nI (sp_wipe σ (xs (i + 1).toNatClampNeg) (xs (i + 2).toNatClampNeg) (xs (i + 3).toNatClampNeg)).1)), (4, .int i), (3, .ref o), (2, .ref (md 0)), (1, .ref (ad 0)), (0, .ref b)]) dL_law_763 (by decide) rfl ?_
  refine j_aload_n B dL_law_765 4 rfl rfl ?_
  refine j_cVi B (S := Unit) 0 [] (WdC' := fun _ => pgM D cI cZ (fun z => A z ∧ z ≠ o ∧ ∀ k, k < 13 + n → z ≠ ad k) (sp_wipe σ (xs (i + 1).toNatClampNeg) (xs (i + 2).toNatClampNeg) (xs (i + 3).toNatClampNeg)).2.2 ρ (nI (sp_wipe σ (xs (i + 1).toNatClampNeg) (xs (i + 2).toNatClampNeg) (xs (i + 3).toNatClampNeg)).1) md) (fun _ => pgWL D cD cC cI cZ cL A ((sp_wipe σ (xs (i + 1).toNatClampNeg) (xs (i + 2).toNatClampNeg) (xs (i + 3).toNatClampNeg)).2.2) n ad o (if (sp_wipe σ (xs (i + 1).toNatClampNeg) (xs (i + 2).toNatClampNeg) (xs (i + 3).toNatClampNeg)).1 = 0 then vp_updL f 0 (sp_wipe σ (xs (i + 1).toNatClampNeg) (xs (i + 2).toNatClampNeg) (xs (i + 3).toNatClampNeg)).2.1.toInt64 else f) ((sp_wipe σ (xs (i + 1).toNatClampNeg) (xs (i + 2).toNatClampNeg) (xs (i + 3).toNatClampNeg)).2.2) ρ (nI (sp_wipe σ (xs (i + 1).toNatClampNeg) (xs (i + 2).toNatClampNeg) (xs (i + 3).toNatClampNeg)).1) md) (c_X3_thrown l D cD cC cI cZ cL (fun z => A z ∧ z ≠ o ∧ ∀ k, k < 13 + n → z ≠ ad k) ((sp_wipe σ (xs (i + 1).toNatClampNeg) (xs (i + 2).toNatClampNeg) (xs (i + 3).toNatClampNeg)).2.2) ρ (nI (sp_wipe σ (xs (i + 1).toNatClampNeg) (xs (i + 2).toNatClampNeg) (xs (i + 3).toNatClampNeg)).1) md) rfl (fun H h => h.2.m) q_565 q_566 q_567 q_3 q_568 hdX3_thrown rfl ⟨Nat.le_of_ble_eq_true rfl, Nat.le_of_ble_eq_true rfl⟩ (Nat.le_of_ble_eq_true rfl) dL_law_766 rfl hcl (fun _ h => h.1) (fun _ h => h.new2) (fun _ h => h.2) (fun H H1 u h h1 hz hk => h.rf h1 hk) (fun r3 _ hp3 => ?_)
  subst hp3
  refine j_iload B dL_law_769 1 rfl ?_
  refine j_icmp_eq B 776 dL_law_771 (by decide) (fun _ => ?_) (fun h => absurd rfl h)
  refine j_iload B dL_law_776 1 rfl ?_
  refine j_if_ne B 793 dL_law_778 (by decide) (fun _ => ?_) (fun h => ?_)
  · refine j_goto B 1760 dL_law_793 (by decide) ?_
    refine j_locals (L' := [(4, .int i), (3, .ref o), (2, .ref (md 0)), (1, .ref (ad 0)), (0, .ref b)]) [2, 3, 4, 5, 6] rfl ?_
    exact kk _ _ _ _ _ _ kp.1 kp.2 rfl
  · have h0 := (pg_kx0 (by have := hsc.1; omega)).1 h
    refine j_aload_n B dL_law_781 3 rfl rfl ?_
    refine j_iconst B (v := 0) dL_law_782 (by decide) ?_
    refine j_lald B (fun H h => h.1.2.1) 4 rfl pg_in01 dL_law_783 ?_
    refine j_iload B dL_law_784 0 rfl ?_
    refine j_i2l B dL_law_786 ?_
    refine j_lcmp B dL_law_787 ?_
    refine j_if_eq B 793 dL_law_788 (by decide) (fun _ => ?_) (fun h9 => absurd (pg_cmp9 h0 (congrArg Int32.toInt64 (hp2 h0).symm)) h9)
    refine j_goto B 1760 dL_law_793 (by decide) ?_
    refine j_locals (L' := [(4, .int i), (3, .ref o), (2, .ref (md 0)), (1, .ref (ad 0)), (0, .ref b)]) [2, 3, 4, 5, 6] rfl ?_
    exact kk _ _ _ _ _ _ kp.1 kp.2 rfl
set_option maxHeartbeats 4000000 in
set_option maxRecDepth 100000 in
/-- case 9: smash -/
theorem law_smash {p : Program} {l : Launch} {e : Env} {s : State} {m : MethodId} {args : Array Value} {below : List Frame} {meth : Method} {c : Code} {D : va_G} {cD cC cI cZ cL : ClassId} {A : Nat → Prop} {Q : State → Prop} (hl : l.stackTraces = false) (B : pgB p m c s args meth RL cL_law 7 D (pgTys cD cC cI cZ cL) A) {b L0 : Nat} {xs : Nat → Int32} (hX : va_X b L0 xs s s.heap) (hbl : b < s.heap.size) (hbA : ¬ A b) {i : Int32} (g1 : vp_in (i + 1) L0) (g2 : vp_in (i + 2) L0) (g3 : vp_in (i + 3) L0) {σ : pgSt} {n : Nat} {ad : Nat → Nat} {o : Nat} {f : Nat → Int64} {ρ : Nat → Int32} {th : Int32} {md : Nat → Nat} (hI : pgI n σ) (hR : pgRho σ ρ) {cells slots : Nat} (hcl : cells + 5 ≤ room_1.cells ∧ slots + 30 ≤ room_1.slots)
    (kk : ∀ (σ2 : pgSt) (n2 : Nat) (ad2 : Nat → Nat) (f2 : Nat → Int64) (ρ2 : Nat → Int32) (th2 : Int32), pgI n2 σ2 → pgRho σ2 ρ2 → ad2 0 = ad 0 → pgJ p l e room_1 s m args below meth c 7 A (pgWL D cD cC cI cZ cL A σ2 n2 ad2 o f2 σ2 ρ2 th2 md) (cells + 5) (slots + 30) Q 1760 [(4, .int i), (3, .ref o), (2, .ref (md 0)), (1, .ref (ad 0)), (0, .ref b)] []) : pgJ p l e room_1 s m args below meth c 7 A (pgWL D cD cC cI cZ cL A σ n ad o f σ ρ th md) cells slots Q 796 [(4, .int i), (3, .ref o), (2, .ref (md 0)), (1, .ref (ad 0)), (0, .ref b)] [] := by
  have hsc := @sc_smash σ (xs (i + 1).toNatClampNeg) (xs (i + 2).toNatClampNeg)
  have kp : pgI n (sp_smash σ (xs (i + 1).toNatClampNeg) (xs (i + 2).toNatClampNeg)).2.2 ∧ pgRho (sp_smash σ (xs (i + 1).toNatClampNeg) (xs (i + 2).toNatClampNeg)).2.2 ρ := kp_smash hI hR
  have hW := c_L_smash l hl D cD cC cI cZ cL (fun z => A z ∧ ∀ k, k < 14 → z ≠ md k) σ n ad o f hI (xs (i + 1).toNatClampNeg) (xs (i + 2).toNatClampNeg)
  refine j_aload_n B dL_law_796 3 rfl rfl ?_
  refine j_aload_n B dL_law_797 4 rfl rfl ?_
  refine j_iload B dL_law_798 0 rfl ?_
  refine j_iconst B (v := 1) dL_law_800 (by decide) ?_
  refine j_iadd B dL_law_801 ?_
  refine j_sld B hX hbl hbA g1 dL_law_802 ?_
  refine j_aload_n B dL_law_803 4 rfl rfl ?_
  refine j_iload B dL_law_804 0 rfl ?_
  refine j_iconst B (v := 2) dL_law_806 (by decide) ?_
  refine j_iadd B dL_law_807 ?_
  refine j_sld B hX hbl hbA g2 dL_law_808 ?_
  refine j_aload_n B dL_law_809 1 rfl rfl ?_
  refine j_cWi B (S := Unit) 4 [.ref (ad 0), .int (xs (i + 1).toNatClampNeg), .int (xs (i + 2).toNatClampNeg), .ref o] (WdC' := fun _ => pgWO D cD cC cL (fun z => A z ∧ ∀ k, k < 14 → z ≠ md k) (sp_smash σ (xs (i + 1).toNatClampNeg) (xs (i + 2).toNatClampNeg)).2.2 n ad o (if (sp_smash σ (xs (i + 1).toNatClampNeg) (xs (i + 2).toNatClampNeg)).1 = 0 then vp_updL f 0 (sp_smash σ (xs (i + 1).toNatClampNeg) (xs (i + 2).toNatClampNeg)).2.1.toInt64 else f)) (fun _ => pgWL D cD cC cI cZ cL A ((sp_smash σ (xs (i + 1).toNatClampNeg) (xs (i + 2).toNatClampNeg)).2.2) n ad o (if (sp_smash σ (xs (i + 1).toNatClampNeg) (xs (i + 2).toNatClampNeg)).1 = 0 then vp_updL f 0 (sp_smash σ (xs (i + 1).toNatClampNeg) (xs (i + 2).toNatClampNeg)).2.1.toInt64 else f) σ ρ th md) hW q_363 q_364 q_0 q_365 hdL_smash rfl ⟨Nat.le_of_ble_eq_true rfl, Nat.le_of_ble_eq_true rfl⟩ (Nat.le_of_ble_eq_true rfl) dL_law_810 rfl ⟨Nat.le_trans (Nat.add_le_add_left (Nat.le_of_ble_eq_true rfl) _) hcl.1, Nat.le_trans (Nat.add_le_add_left (Nat.le_of_ble_eq_true rfl) _) hcl.2⟩ (fun _ h => h.1) (fun _ h => h.new1) (fun _ h => h.1) (fun H H1 u h h1 hz hk => h.cls h1 hk) (fun r _ hp1 => ?_)
  subst hp1
  refine j_widen (k := cells + 5) (n := slots + 30) (Nat.add_le_add_left (Nat.le_of_ble_eq_true rfl) _) (Nat.add_le_add_left (Nat.le_of_ble_eq_true rfl) _) ?_
  refine j_istore B (L' := [(5, .int (nI (sp_smash σ (xs (i + 1).toNatClampNeg) (xs (i + 2).toNatClampNeg)).1)), (4, .int i), (3, .ref o), (2, .ref (md 0)), (1, .ref (ad 0)), (0, .ref b)]) dL_law_813 (by decide) rfl ?_
  refine j_aload_n B dL_law_815 3 rfl rfl ?_
  refine j_aload_n B dL_law_816 5 rfl rfl ?_
  refine j_iload B dL_law_817 1 rfl ?_
  refine j_iconst B (v := 1) dL_law_819 (by decide) ?_
  refine j_iadd B dL_law_820 ?_
  refine j_sld B hX hbl hbA g1 dL_law_821 ?_
  refine j_aload_n B dL_law_822 5 rfl rfl ?_
  refine j_iload B dL_law_823 1 rfl ?_
  refine j_iconst B (v := 2) dL_law_825 (by decide) ?_
  refine j_iadd B dL_law_826 ?_
  refine j_sld B hX hbl hbA g2 dL_law_827 ?_
  refine j_cVi B (S := Unit) 2 [.int (xs (i + 1).toNatClampNeg), .int (xs (i + 2).toNatClampNeg)] (WdC' := fun _ => pgM D cI cZ (fun z => A z ∧ z ≠ o ∧ ∀ k, k < 13 + n → z ≠ ad k) (sp_smash σ (xs (i + 1).toNatClampNeg) (xs (i + 2).toNatClampNeg)).2.2 ρ (nI (sp_smash σ (xs (i + 1).toNatClampNeg) (xs (i + 2).toNatClampNeg)).1) md) (fun _ => pgWL D cD cC cI cZ cL A ((sp_smash σ (xs (i + 1).toNatClampNeg) (xs (i + 2).toNatClampNeg)).2.2) n ad o (if (sp_smash σ (xs (i + 1).toNatClampNeg) (xs (i + 2).toNatClampNeg)).1 = 0 then vp_updL f 0 (sp_smash σ (xs (i + 1).toNatClampNeg) (xs (i + 2).toNatClampNeg)).2.1.toInt64 else f) ((sp_smash σ (xs (i + 1).toNatClampNeg) (xs (i + 2).toNatClampNeg)).2.2) ρ (nI (sp_smash σ (xs (i + 1).toNatClampNeg) (xs (i + 2).toNatClampNeg)).1) md) (c_X3_smash l D cD cC cI cZ cL (fun z => A z ∧ z ≠ o ∧ ∀ k, k < 13 + n → z ≠ ad k) σ ρ th md n hI (xs (i + 1).toNatClampNeg) (xs (i + 2).toNatClampNeg)) rfl (fun H h => h.2.m) q_634 q_635 q_636 q_3 q_637 hdX3_smash rfl ⟨Nat.le_of_ble_eq_true rfl, Nat.le_of_ble_eq_true rfl⟩ (Nat.le_of_ble_eq_true rfl) dL_law_828 rfl hcl (fun _ h => h.1) (fun _ h => h.new2) (fun _ h => h.2) (fun H H1 u h h1 hz hk => h.rf h1 hk) (fun r2 _ hp2 => ?_)
  refine j_istore B (L' := [(6, .int r2), (5, .int (nI (sp_smash σ (xs (i + 1).toNatClampNeg) (xs (i + 2).toNatClampNeg)).1)), (4, .int i), (3, .ref o), (2, .ref (md 0)), (1, .ref (ad 0)), (0, .ref b)]) dL_law_831 (by decide) rfl ?_
  refine j_aload_n B dL_law_833 4 rfl rfl ?_
  refine j_cVi B (S := Unit) 0 [] (WdC' := fun _ => pgM D cI cZ (fun z => A z ∧ z ≠ o ∧ ∀ k, k < 13 + n → z ≠ ad k) (sp_smash σ (xs (i + 1).toNatClampNeg) (xs (i + 2).toNatClampNeg)).2.2 ρ (nI (sp_smash σ (xs (i + 1).toNatClampNeg) (xs (i + 2).toNatClampNeg)).1) md) (fun _ => pgWL D cD cC cI cZ cL A ((sp_smash σ (xs (i + 1).toNatClampNeg) (xs (i + 2).toNatClampNeg)).2.2) n ad o (if (sp_smash σ (xs (i + 1).toNatClampNeg) (xs (i + 2).toNatClampNeg)).1 = 0 then vp_updL f 0 (sp_smash σ (xs (i + 1).toNatClampNeg) (xs (i + 2).toNatClampNeg)).2.1.toInt64 else f) ((sp_smash σ (xs (i + 1).toNatClampNeg) (xs (i + 2).toNatClampNeg)).2.2) ρ (nI (sp_smash σ (xs (i + 1).toNatClampNeg) (xs (i + 2).toNatClampNeg)).1) md) (c_X3_thrown l D cD cC cI cZ cL (fun z => A z ∧ z ≠ o ∧ ∀ k, k < 13 + n → z ≠ ad k) ((sp_smash σ (xs (i + 1).toNatClampNeg) (xs (i + 2).toNatClampNeg)).2.2) ρ (nI (sp_smash σ (xs (i + 1).toNatClampNeg) (xs (i + 2).toNatClampNeg)).1) md) rfl (fun H h => h.2.m) q_565 q_566 q_567 q_3 q_568 hdX3_thrown rfl ⟨Nat.le_of_ble_eq_true rfl, Nat.le_of_ble_eq_true rfl⟩ (Nat.le_of_ble_eq_true rfl) dL_law_834 rfl hcl (fun _ h => h.1) (fun _ h => h.new2) (fun _ h => h.2) (fun H H1 u h h1 hz hk => h.rf h1 hk) (fun r3 _ hp3 => ?_)
  subst hp3
  refine j_iload B dL_law_837 1 rfl ?_
  refine j_icmp_eq B 844 dL_law_839 (by decide) (fun _ => ?_) (fun h => absurd rfl h)
  refine j_iload B dL_law_844 1 rfl ?_
  refine j_if_ne B 861 dL_law_846 (by decide) (fun _ => ?_) (fun h => ?_)
  · refine j_goto B 1760 dL_law_861 (by decide) ?_
    refine j_locals (L' := [(4, .int i), (3, .ref o), (2, .ref (md 0)), (1, .ref (ad 0)), (0, .ref b)]) [2, 3, 4, 5, 6] rfl ?_
    exact kk _ _ _ _ _ _ kp.1 kp.2 rfl
  · have h0 := (pg_kx0 (by have := hsc.1; omega)).1 h
    refine j_aload_n B dL_law_849 3 rfl rfl ?_
    refine j_iconst B (v := 0) dL_law_850 (by decide) ?_
    refine j_lald B (fun H h => h.1.2.1) 4 rfl pg_in01 dL_law_851 ?_
    refine j_iload B dL_law_852 0 rfl ?_
    refine j_i2l B dL_law_854 ?_
    refine j_lcmp B dL_law_855 ?_
    refine j_if_eq B 861 dL_law_856 (by decide) (fun _ => ?_) (fun h9 => absurd (pg_cmp9 h0 (congrArg Int32.toInt64 (hp2 h0).symm)) h9)
    refine j_goto B 1760 dL_law_861 (by decide) ?_
    refine j_locals (L' := [(4, .int i), (3, .ref o), (2, .ref (md 0)), (1, .ref (ad 0)), (0, .ref b)]) [2, 3, 4, 5, 6] rfl ?_
    exact kk _ _ _ _ _ _ kp.1 kp.2 rfl
set_option maxHeartbeats 4000000 in
set_option maxRecDepth 100000 in
/-- case 10: check -/
theorem law_check {p : Program} {l : Launch} {e : Env} {s : State} {m : MethodId} {args : Array Value} {below : List Frame} {meth : Method} {c : Code} {D : va_G} {cD cC cI cZ cL : ClassId} {A : Nat → Prop} {Q : State → Prop} (hl : l.stackTraces = false) (B : pgB p m c s args meth RL cL_law 7 D (pgTys cD cC cI cZ cL) A) {b L0 : Nat} {xs : Nat → Int32} (hX : va_X b L0 xs s s.heap) (hbl : b < s.heap.size) (hbA : ¬ A b) {i : Int32} (g1 : vp_in (i + 1) L0) (g2 : vp_in (i + 2) L0) (g3 : vp_in (i + 3) L0) {σ : pgSt} {n : Nat} {ad : Nat → Nat} {o : Nat} {f : Nat → Int64} {ρ : Nat → Int32} {th : Int32} {md : Nat → Nat} (hI : pgI n σ) (hR : pgRho σ ρ) {cells slots : Nat} (hcl : cells + 5 ≤ room_1.cells ∧ slots + 30 ≤ room_1.slots)
    (kk : ∀ (σ2 : pgSt) (n2 : Nat) (ad2 : Nat → Nat) (f2 : Nat → Int64) (ρ2 : Nat → Int32) (th2 : Int32), pgI n2 σ2 → pgRho σ2 ρ2 → ad2 0 = ad 0 → pgJ p l e room_1 s m args below meth c 7 A (pgWL D cD cC cI cZ cL A σ2 n2 ad2 o f2 σ2 ρ2 th2 md) (cells + 5) (slots + 30) Q 1760 [(4, .int i), (3, .ref o), (2, .ref (md 0)), (1, .ref (ad 0)), (0, .ref b)] []) : pgJ p l e room_1 s m args below meth c 7 A (pgWL D cD cC cI cZ cL A σ n ad o f σ ρ th md) cells slots Q 864 [(4, .int i), (3, .ref o), (2, .ref (md 0)), (1, .ref (ad 0)), (0, .ref b)] [] := by
  by_cases hz : xs (i + 3).toNatClampNeg = 0
  · have hsc := @sc_check σ (xs (i + 1).toNatClampNeg) (xs (i + 2).toNatClampNeg) 0
    have kp : pgI n (sp_check σ (xs (i + 1).toNatClampNeg) (xs (i + 2).toNatClampNeg) 0).2.2 ∧ pgRho (sp_check σ (xs (i + 1).toNatClampNeg) (xs (i + 2).toNatClampNeg) 0).2.2 ρ := kp_check hI hR
    have hW := c_L_check l hl D cD cC cI cZ cL (fun z => A z ∧ ∀ k, k < 14 → z ≠ md k) σ n ad o f hI (xs (i + 1).toNatClampNeg) (xs (i + 2).toNatClampNeg) 0 (Or.inl rfl)
    refine j_aload_n B dL_law_864 3 rfl rfl ?_
    refine j_aload_n B dL_law_865 4 rfl rfl ?_
    refine j_iload B dL_law_866 0 rfl ?_
    refine j_iconst B (v := 1) dL_law_868 (by decide) ?_
    refine j_iadd B dL_law_869 ?_
    refine j_sld B hX hbl hbA g1 dL_law_870 ?_
    refine j_aload_n B dL_law_871 4 rfl rfl ?_
    refine j_iload B dL_law_872 0 rfl ?_
    refine j_iconst B (v := 2) dL_law_874 (by decide) ?_
    refine j_iadd B dL_law_875 ?_
    refine j_sld B hX hbl hbA g2 dL_law_876 ?_
    refine j_aload_n B dL_law_877 4 rfl rfl ?_
    refine j_iload B dL_law_878 0 rfl ?_
    refine j_iconst B (v := 3) dL_law_880 (by decide) ?_
    refine j_iadd B dL_law_881 ?_
    refine j_sld B hX hbl hbA g3 dL_law_882 ?_
    refine j_if_eq B 890 dL_law_883 (by decide) (fun _ => ?_) (fun h => absurd hz h)
    refine j_iconst B (v := 0) dL_law_890 (by decide) ?_
    refine j_aload_n B dL_law_891 1 rfl rfl ?_
    refine j_cWi B (S := Unit) 5 [.ref (ad 0), .int (xs (i + 1).toNatClampNeg), .int (xs (i + 2).toNatClampNeg), .int 0, .ref o] (WdC' := fun _ => pgWO D cD cC cL (fun z => A z ∧ ∀ k, k < 14 → z ≠ md k) (sp_check σ (xs (i + 1).toNatClampNeg) (xs (i + 2).toNatClampNeg) 0).2.2 n ad o (if (sp_check σ (xs (i + 1).toNatClampNeg) (xs (i + 2).toNatClampNeg) 0).1 = 0 then vp_updL f 0 (sp_check σ (xs (i + 1).toNatClampNeg) (xs (i + 2).toNatClampNeg) 0).2.1.toInt64 else f)) (fun _ => pgWL D cD cC cI cZ cL A ((sp_check σ (xs (i + 1).toNatClampNeg) (xs (i + 2).toNatClampNeg) 0).2.2) n ad o (if (sp_check σ (xs (i + 1).toNatClampNeg) (xs (i + 2).toNatClampNeg) 0).1 = 0 then vp_updL f 0 (sp_check σ (xs (i + 1).toNatClampNeg) (xs (i + 2).toNatClampNeg) 0).2.1.toInt64 else f) σ ρ th md) hW q_371 q_372 q_0 q_373 hdL_check rfl ⟨Nat.le_of_ble_eq_true rfl, Nat.le_of_ble_eq_true rfl⟩ (Nat.le_of_ble_eq_true rfl) dL_law_892 rfl ⟨Nat.le_trans (Nat.add_le_add_left (Nat.le_of_ble_eq_true rfl) _) hcl.1, Nat.le_trans (Nat.add_le_add_left (Nat.le_of_ble_eq_true rfl) _) hcl.2⟩ (fun _ h => h.1) (fun _ h => h.new1) (fun _ h => h.1) (fun H H1 u h h1 hz hk => h.cls h1 hk) (fun r _ hp1 => ?_)
    subst hp1
    refine j_widen (k := cells + 5) (n := slots + 30) (Nat.add_le_add_left (Nat.le_of_ble_eq_true rfl) _) (Nat.add_le_add_left (Nat.le_of_ble_eq_true rfl) _) ?_
    refine j_istore B (L' := [(5, .int (nI (sp_check σ (xs (i + 1).toNatClampNeg) (xs (i + 2).toNatClampNeg) 0).1)), (4, .int i), (3, .ref o), (2, .ref (md 0)), (1, .ref (ad 0)), (0, .ref b)]) dL_law_895 (by decide) rfl ?_
    refine j_aload_n B dL_law_897 3 rfl rfl ?_
    refine j_aload_n B dL_law_898 5 rfl rfl ?_
    refine j_iload B dL_law_899 1 rfl ?_
    refine j_iconst B (v := 1) dL_law_901 (by decide) ?_
    refine j_iadd B dL_law_902 ?_
    refine j_sld B hX hbl hbA g1 dL_law_903 ?_
    refine j_aload_n B dL_law_904 5 rfl rfl ?_
    refine j_iload B dL_law_905 1 rfl ?_
    refine j_iconst B (v := 2) dL_law_907 (by decide) ?_
    refine j_iadd B dL_law_908 ?_
    refine j_sld B hX hbl hbA g2 dL_law_909 ?_
    refine j_aload_n B dL_law_910 5 rfl rfl ?_
    refine j_iload B dL_law_911 1 rfl ?_
    refine j_iconst B (v := 3) dL_law_913 (by decide) ?_
    refine j_iadd B dL_law_914 ?_
    refine j_sld B hX hbl hbA g3 dL_law_915 ?_
    refine j_if_eq B 923 dL_law_916 (by decide) (fun _ => ?_) (fun h => absurd hz h)
    refine j_iconst B (v := 0) dL_law_923 (by decide) ?_
    refine j_cVi B (S := Unit) 3 [.int (xs (i + 1).toNatClampNeg), .int (xs (i + 2).toNatClampNeg), .int 0] (WdC' := fun _ => pgM D cI cZ (fun z => A z ∧ z ≠ o ∧ ∀ k, k < 13 + n → z ≠ ad k) (sp_check σ (xs (i + 1).toNatClampNeg) (xs (i + 2).toNatClampNeg) 0).2.2 ρ (nI (sp_check σ (xs (i + 1).toNatClampNeg) (xs (i + 2).toNatClampNeg) 0).1) md) (fun _ => pgWL D cD cC cI cZ cL A ((sp_check σ (xs (i + 1).toNatClampNeg) (xs (i + 2).toNatClampNeg) 0).2.2) n ad o (if (sp_check σ (xs (i + 1).toNatClampNeg) (xs (i + 2).toNatClampNeg) 0).1 = 0 then vp_updL f 0 (sp_check σ (xs (i + 1).toNatClampNeg) (xs (i + 2).toNatClampNeg) 0).2.1.toInt64 else f) ((sp_check σ (xs (i + 1).toNatClampNeg) (xs (i + 2).toNatClampNeg) 0).2.2) ρ (nI (sp_check σ (xs (i + 1).toNatClampNeg) (xs (i + 2).toNatClampNeg) 0).1) md) (c_X3_check l D cD cC cI cZ cL (fun z => A z ∧ z ≠ o ∧ ∀ k, k < 13 + n → z ≠ ad k) σ ρ th md n hI (xs (i + 1).toNatClampNeg) (xs (i + 2).toNatClampNeg) 0 (Or.inl rfl)) rfl (fun H h => h.2.m) q_638 q_639 q_640 q_3 q_641 hdX3_check rfl ⟨Nat.le_of_ble_eq_true rfl, Nat.le_of_ble_eq_true rfl⟩ (Nat.le_of_ble_eq_true rfl) dL_law_924 rfl hcl (fun _ h => h.1) (fun _ h => h.new2) (fun _ h => h.2) (fun H H1 u h h1 hz hk => h.rf h1 hk) (fun r2 _ hp2 => ?_)
    refine j_istore B (L' := [(6, .int r2), (5, .int (nI (sp_check σ (xs (i + 1).toNatClampNeg) (xs (i + 2).toNatClampNeg) 0).1)), (4, .int i), (3, .ref o), (2, .ref (md 0)), (1, .ref (ad 0)), (0, .ref b)]) dL_law_927 (by decide) rfl ?_
    refine j_aload_n B dL_law_929 4 rfl rfl ?_
    refine j_cVi B (S := Unit) 0 [] (WdC' := fun _ => pgM D cI cZ (fun z => A z ∧ z ≠ o ∧ ∀ k, k < 13 + n → z ≠ ad k) (sp_check σ (xs (i + 1).toNatClampNeg) (xs (i + 2).toNatClampNeg) 0).2.2 ρ (nI (sp_check σ (xs (i + 1).toNatClampNeg) (xs (i + 2).toNatClampNeg) 0).1) md) (fun _ => pgWL D cD cC cI cZ cL A ((sp_check σ (xs (i + 1).toNatClampNeg) (xs (i + 2).toNatClampNeg) 0).2.2) n ad o (if (sp_check σ (xs (i + 1).toNatClampNeg) (xs (i + 2).toNatClampNeg) 0).1 = 0 then vp_updL f 0 (sp_check σ (xs (i + 1).toNatClampNeg) (xs (i + 2).toNatClampNeg) 0).2.1.toInt64 else f) ((sp_check σ (xs (i + 1).toNatClampNeg) (xs (i + 2).toNatClampNeg) 0).2.2) ρ (nI (sp_check σ (xs (i + 1).toNatClampNeg) (xs (i + 2).toNatClampNeg) 0).1) md) (c_X3_thrown l D cD cC cI cZ cL (fun z => A z ∧ z ≠ o ∧ ∀ k, k < 13 + n → z ≠ ad k) ((sp_check σ (xs (i + 1).toNatClampNeg) (xs (i + 2).toNatClampNeg) 0).2.2) ρ (nI (sp_check σ (xs (i + 1).toNatClampNeg) (xs (i + 2).toNatClampNeg) 0).1) md) rfl (fun H h => h.2.m) q_565 q_566 q_567 q_3 q_568 hdX3_thrown rfl ⟨Nat.le_of_ble_eq_true rfl, Nat.le_of_ble_eq_true rfl⟩ (Nat.le_of_ble_eq_true rfl) dL_law_930 rfl hcl (fun _ h => h.1) (fun _ h => h.new2) (fun _ h => h.2) (fun H H1 u h h1 hz hk => h.rf h1 hk) (fun r3 _ hp3 => ?_)
    subst hp3
    refine j_iload B dL_law_933 1 rfl ?_
    refine j_icmp_eq B 940 dL_law_935 (by decide) (fun _ => ?_) (fun h => absurd rfl h)
    refine j_iload B dL_law_940 1 rfl ?_
    refine j_if_ne B 957 dL_law_942 (by decide) (fun _ => ?_) (fun h => ?_)
    · refine j_goto B 1760 dL_law_957 (by decide) ?_
      refine j_locals (L' := [(4, .int i), (3, .ref o), (2, .ref (md 0)), (1, .ref (ad 0)), (0, .ref b)]) [2, 3, 4, 5, 6] rfl ?_
      exact kk _ _ _ _ _ _ kp.1 kp.2 rfl
    · have h0 := (pg_kx0 (by have := hsc.1; omega)).1 h
      refine j_aload_n B dL_law_945 3 rfl rfl ?_
      refine j_iconst B (v := 0) dL_law_946 (by decide) ?_
      refine j_lald B (fun H h => h.1.2.1) 4 rfl pg_in01 dL_law_947 ?_
      refine j_iload B dL_law_948 0 rfl ?_
      refine j_i2l B dL_law_950 ?_
      refine j_lcmp B dL_law_951 ?_
      refine j_if_eq B 957 dL_law_952 (by decide) (fun _ => ?_) (fun h9 => absurd (pg_cmp9 h0 (congrArg Int32.toInt64 (hp2 h0).symm)) h9)
      refine j_goto B 1760 dL_law_957 (by decide) ?_
      refine j_locals (L' := [(4, .int i), (3, .ref o), (2, .ref (md 0)), (1, .ref (ad 0)), (0, .ref b)]) [2, 3, 4, 5, 6] rfl ?_
      exact kk _ _ _ _ _ _ kp.1 kp.2 rfl
  · have hsc := @sc_check σ (xs (i + 1).toNatClampNeg) (xs (i + 2).toNatClampNeg) 1
    have kp : pgI n (sp_check σ (xs (i + 1).toNatClampNeg) (xs (i + 2).toNatClampNeg) 1).2.2 ∧ pgRho (sp_check σ (xs (i + 1).toNatClampNeg) (xs (i + 2).toNatClampNeg) 1).2.2 ρ := kp_check hI hR
    have hW := c_L_check l hl D cD cC cI cZ cL (fun z => A z ∧ ∀ k, k < 14 → z ≠ md k) σ n ad o f hI (xs (i + 1).toNatClampNeg) (xs (i + 2).toNatClampNeg) 1 (Or.inr rfl)
    refine j_aload_n B dL_law_864 3 rfl rfl ?_
    refine j_aload_n B dL_law_865 4 rfl rfl ?_
    refine j_iload B dL_law_866 0 rfl ?_
    refine j_iconst B (v := 1) dL_law_868 (by decide) ?_
    refine j_iadd B dL_law_869 ?_
    refine j_sld B hX hbl hbA g1 dL_law_870 ?_
    refine j_aload_n B dL_law_871 4 rfl rfl ?_
    refine j_iload B dL_law_872 0 rfl ?_
    refine j_iconst B (v := 2) dL_law_874 (by decide) ?_
    refine j_iadd B dL_law_875 ?_
    refine j_sld B hX hbl hbA g2 dL_law_876 ?_
    refine j_aload_n B dL_law_877 4 rfl rfl ?_
    refine j_iload B dL_law_878 0 rfl ?_
    refine j_iconst B (v := 3) dL_law_880 (by decide) ?_
    refine j_iadd B dL_law_881 ?_
    refine j_sld B hX hbl hbA g3 dL_law_882 ?_
    refine j_if_eq B 890 dL_law_883 (by decide) (fun h => absurd h hz) (fun _ => ?_)
    refine j_iconst B (v := 1) dL_law_886 (by decide) ?_
    refine j_goto B 891 dL_law_887 (by decide) ?_
    refine j_aload_n B dL_law_891 1 rfl rfl ?_
    refine j_cWi B (S := Unit) 5 [.ref (ad 0), .int (xs (i + 1).toNatClampNeg), .int (xs (i + 2).toNatClampNeg), .int 1, .ref o] (WdC' := fun _ => pgWO D cD cC cL (fun z => A z ∧ ∀ k, k < 14 → z ≠ md k) (sp_check σ (xs (i + 1).toNatClampNeg) (xs (i + 2).toNatClampNeg) 1).2.2 n ad o (if (sp_check σ (xs (i + 1).toNatClampNeg) (xs (i + 2).toNatClampNeg) 1).1 = 0 then vp_updL f 0 (sp_check σ (xs (i + 1).toNatClampNeg) (xs (i + 2).toNatClampNeg) 1).2.1.toInt64 else f)) (fun _ => pgWL D cD cC cI cZ cL A ((sp_check σ (xs (i + 1).toNatClampNeg) (xs (i + 2).toNatClampNeg) 1).2.2) n ad o (if (sp_check σ (xs (i + 1).toNatClampNeg) (xs (i + 2).toNatClampNeg) 1).1 = 0 then vp_updL f 0 (sp_check σ (xs (i + 1).toNatClampNeg) (xs (i + 2).toNatClampNeg) 1).2.1.toInt64 else f) σ ρ th md) hW q_371 q_372 q_0 q_373 hdL_check rfl ⟨Nat.le_of_ble_eq_true rfl, Nat.le_of_ble_eq_true rfl⟩ (Nat.le_of_ble_eq_true rfl) dL_law_892 rfl ⟨Nat.le_trans (Nat.add_le_add_left (Nat.le_of_ble_eq_true rfl) _) hcl.1, Nat.le_trans (Nat.add_le_add_left (Nat.le_of_ble_eq_true rfl) _) hcl.2⟩ (fun _ h => h.1) (fun _ h => h.new1) (fun _ h => h.1) (fun H H1 u h h1 hz hk => h.cls h1 hk) (fun r _ hp1 => ?_)
    subst hp1
    refine j_widen (k := cells + 5) (n := slots + 30) (Nat.add_le_add_left (Nat.le_of_ble_eq_true rfl) _) (Nat.add_le_add_left (Nat.le_of_ble_eq_true rfl) _) ?_
    refine j_istore B (L' := [(5, .int (nI (sp_check σ (xs (i + 1).toNatClampNeg) (xs (i + 2).toNatClampNeg) 1).1)), (4, .int i), (3, .ref o), (2, .ref (md 0)), (1, .ref (ad 0)), (0, .ref b)]) dL_law_895 (by decide) rfl ?_
    refine j_aload_n B dL_law_897 3 rfl rfl ?_
    refine j_aload_n B dL_law_898 5 rfl rfl ?_
    refine j_iload B dL_law_899 1 rfl ?_
    refine j_iconst B (v := 1) dL_law_901 (by decide) ?_
    refine j_iadd B dL_law_902 ?_
    refine j_sld B hX hbl hbA g1 dL_law_903 ?_
    refine j_aload_n B dL_law_904 5 rfl rfl ?_
    refine j_iload B dL_law_905 1 rfl ?_
    refine j_iconst B (v := 2) dL_law_907 (by decide) ?_
    refine j_iadd B dL_law_908 ?_
    refine j_sld B hX hbl hbA g2 dL_law_909 ?_
    refine j_aload_n B dL_law_910 5 rfl rfl ?_
    refine j_iload B dL_law_911 1 rfl ?_
    refine j_iconst B (v := 3) dL_law_913 (by decide) ?_
    refine j_iadd B dL_law_914 ?_
    refine j_sld B hX hbl hbA g3 dL_law_915 ?_
    refine j_if_eq B 923 dL_law_916 (by decide) (fun h => absurd h hz) (fun _ => ?_)
    refine j_iconst B (v := 1) dL_law_919 (by decide) ?_
    refine j_goto B 924 dL_law_920 (by decide) ?_
    refine j_cVi B (S := Unit) 3 [.int (xs (i + 1).toNatClampNeg), .int (xs (i + 2).toNatClampNeg), .int 1] (WdC' := fun _ => pgM D cI cZ (fun z => A z ∧ z ≠ o ∧ ∀ k, k < 13 + n → z ≠ ad k) (sp_check σ (xs (i + 1).toNatClampNeg) (xs (i + 2).toNatClampNeg) 1).2.2 ρ (nI (sp_check σ (xs (i + 1).toNatClampNeg) (xs (i + 2).toNatClampNeg) 1).1) md) (fun _ => pgWL D cD cC cI cZ cL A ((sp_check σ (xs (i + 1).toNatClampNeg) (xs (i + 2).toNatClampNeg) 1).2.2) n ad o (if (sp_check σ (xs (i + 1).toNatClampNeg) (xs (i + 2).toNatClampNeg) 1).1 = 0 then vp_updL f 0 (sp_check σ (xs (i + 1).toNatClampNeg) (xs (i + 2).toNatClampNeg) 1).2.1.toInt64 else f) ((sp_check σ (xs (i + 1).toNatClampNeg) (xs (i + 2).toNatClampNeg) 1).2.2) ρ (nI (sp_check σ (xs (i + 1).toNatClampNeg) (xs (i + 2).toNatClampNeg) 1).1) md) (c_X3_check l D cD cC cI cZ cL (fun z => A z ∧ z ≠ o ∧ ∀ k, k < 13 + n → z ≠ ad k) σ ρ th md n hI (xs (i + 1).toNatClampNeg) (xs (i + 2).toNatClampNeg) 1 (Or.inr rfl)) rfl (fun H h => h.2.m) q_638 q_639 q_640 q_3 q_641 hdX3_check rfl ⟨Nat.le_of_ble_eq_true rfl, Nat.le_of_ble_eq_true rfl⟩ (Nat.le_of_ble_eq_true rfl) dL_law_924 rfl hcl (fun _ h => h.1) (fun _ h => h.new2) (fun _ h => h.2) (fun H H1 u h h1 hz hk => h.rf h1 hk) (fun r2 _ hp2 => ?_)
    refine j_istore B (L' := [(6, .int r2), (5, .int (nI (sp_check σ (xs (i + 1).toNatClampNeg) (xs (i + 2).toNatClampNeg) 1).1)), (4, .int i), (3, .ref o), (2, .ref (md 0)), (1, .ref (ad 0)), (0, .ref b)]) dL_law_927 (by decide) rfl ?_
    refine j_aload_n B dL_law_929 4 rfl rfl ?_
    refine j_cVi B (S := Unit) 0 [] (WdC' := fun _ => pgM D cI cZ (fun z => A z ∧ z ≠ o ∧ ∀ k, k < 13 + n → z ≠ ad k) (sp_check σ (xs (i + 1).toNatClampNeg) (xs (i + 2).toNatClampNeg) 1).2.2 ρ (nI (sp_check σ (xs (i + 1).toNatClampNeg) (xs (i + 2).toNatClampNeg) 1).1) md) (fun _ => pgWL D cD cC cI cZ cL A ((sp_check σ (xs (i + 1).toNatClampNeg) (xs (i + 2).toNatClampNeg) 1).2.2) n ad o (if (sp_check σ (xs (i + 1).toNatClampNeg) (xs (i + 2).toNatClampNeg) 1).1 = 0 then vp_updL f 0 (sp_check σ (xs (i + 1).toNatClampNeg) (xs (i + 2).toNatClampNeg) 1).2.1.toInt64 else f) ((sp_check σ (xs (i + 1).toNatClampNeg) (xs (i + 2).toNatClampNeg) 1).2.2) ρ (nI (sp_check σ (xs (i + 1).toNatClampNeg) (xs (i + 2).toNatClampNeg) 1).1) md) (c_X3_thrown l D cD cC cI cZ cL (fun z => A z ∧ z ≠ o ∧ ∀ k, k < 13 + n → z ≠ ad k) ((sp_check σ (xs (i + 1).toNatClampNeg) (xs (i + 2).toNatClampNeg) 1).2.2) ρ (nI (sp_check σ (xs (i + 1).toNatClampNeg) (xs (i + 2).toNatClampNeg) 1).1) md) rfl (fun H h => h.2.m) q_565 q_566 q_567 q_3 q_568 hdX3_thrown rfl ⟨Nat.le_of_ble_eq_true rfl, Nat.le_of_ble_eq_true rfl⟩ (Nat.le_of_ble_eq_true rfl) dL_law_930 rfl hcl (fun _ h => h.1) (fun _ h => h.new2) (fun _ h => h.2) (fun H H1 u h h1 hz hk => h.rf h1 hk) (fun r3 _ hp3 => ?_)
    subst hp3
    refine j_iload B dL_law_933 1 rfl ?_
    refine j_icmp_eq B 940 dL_law_935 (by decide) (fun _ => ?_) (fun h => absurd rfl h)
    refine j_iload B dL_law_940 1 rfl ?_
    refine j_if_ne B 957 dL_law_942 (by decide) (fun _ => ?_) (fun h => ?_)
    · refine j_goto B 1760 dL_law_957 (by decide) ?_
      refine j_locals (L' := [(4, .int i), (3, .ref o), (2, .ref (md 0)), (1, .ref (ad 0)), (0, .ref b)]) [2, 3, 4, 5, 6] rfl ?_
      exact kk _ _ _ _ _ _ kp.1 kp.2 rfl
    · have h0 := (pg_kx0 (by have := hsc.1; omega)).1 h
      refine j_aload_n B dL_law_945 3 rfl rfl ?_
      refine j_iconst B (v := 0) dL_law_946 (by decide) ?_
      refine j_lald B (fun H h => h.1.2.1) 4 rfl pg_in01 dL_law_947 ?_
      refine j_iload B dL_law_948 0 rfl ?_
      refine j_i2l B dL_law_950 ?_
      refine j_lcmp B dL_law_951 ?_
      refine j_if_eq B 957 dL_law_952 (by decide) (fun _ => ?_) (fun h9 => absurd (pg_cmp9 h0 (congrArg Int32.toInt64 (hp2 h0).symm)) h9)
      refine j_goto B 1760 dL_law_957 (by decide) ?_
      refine j_locals (L' := [(4, .int i), (3, .ref o), (2, .ref (md 0)), (1, .ref (ad 0)), (0, .ref b)]) [2, 3, 4, 5, 6] rfl ?_
      exact kk _ _ _ _ _ _ kp.1 kp.2 rfl
set_option maxHeartbeats 4000000 in
set_option maxRecDepth 100000 in
/-- case 11: lose -/
theorem law_lose {p : Program} {l : Launch} {e : Env} {s : State} {m : MethodId} {args : Array Value} {below : List Frame} {meth : Method} {c : Code} {D : va_G} {cD cC cI cZ cL : ClassId} {A : Nat → Prop} {Q : State → Prop} (hl : l.stackTraces = false) (B : pgB p m c s args meth RL cL_law 7 D (pgTys cD cC cI cZ cL) A) {b L0 : Nat} {xs : Nat → Int32} (hX : va_X b L0 xs s s.heap) (hbl : b < s.heap.size) (hbA : ¬ A b) {i : Int32} (g1 : vp_in (i + 1) L0) (g2 : vp_in (i + 2) L0) (g3 : vp_in (i + 3) L0) {σ : pgSt} {n : Nat} {ad : Nat → Nat} {o : Nat} {f : Nat → Int64} {ρ : Nat → Int32} {th : Int32} {md : Nat → Nat} (hI : pgI n σ) (hR : pgRho σ ρ) {cells slots : Nat} (hcl : cells + 5 ≤ room_1.cells ∧ slots + 30 ≤ room_1.slots)
    (kk : ∀ (σ2 : pgSt) (n2 : Nat) (ad2 : Nat → Nat) (f2 : Nat → Int64) (ρ2 : Nat → Int32) (th2 : Int32), pgI n2 σ2 → pgRho σ2 ρ2 → ad2 0 = ad 0 → pgJ p l e room_1 s m args below meth c 7 A (pgWL D cD cC cI cZ cL A σ2 n2 ad2 o f2 σ2 ρ2 th2 md) (cells + 5) (slots + 30) Q 1760 [(4, .int i), (3, .ref o), (2, .ref (md 0)), (1, .ref (ad 0)), (0, .ref b)] []) : pgJ p l e room_1 s m args below meth c 7 A (pgWL D cD cC cI cZ cL A σ n ad o f σ ρ th md) cells slots Q 960 [(4, .int i), (3, .ref o), (2, .ref (md 0)), (1, .ref (ad 0)), (0, .ref b)] [] := by
  have hsc := @sc_lose σ (xs (i + 1).toNatClampNeg)
  have kp : pgI n (sp_lose σ (xs (i + 1).toNatClampNeg)).2.2 ∧ pgRho (sp_lose σ (xs (i + 1).toNatClampNeg)).2.2 ρ := kp_lose hI hR
  have hW := c_L_lose l hl D cD cC cI cZ cL (fun z => A z ∧ ∀ k, k < 14 → z ≠ md k) σ n ad o f hI (xs (i + 1).toNatClampNeg)
  refine j_aload_n B dL_law_960 3 rfl rfl ?_
  refine j_aload_n B dL_law_961 4 rfl rfl ?_
  refine j_iload B dL_law_962 0 rfl ?_
  refine j_iconst B (v := 1) dL_law_964 (by decide) ?_
  refine j_iadd B dL_law_965 ?_
  refine j_sld B hX hbl hbA g1 dL_law_966 ?_
  refine j_aload_n B dL_law_967 1 rfl rfl ?_
  refine j_cWi B (S := Unit) 3 [.ref (ad 0), .int (xs (i + 1).toNatClampNeg), .ref o] (WdC' := fun _ => pgWO D cD cC cL (fun z => A z ∧ ∀ k, k < 14 → z ≠ md k) (sp_lose σ (xs (i + 1).toNatClampNeg)).2.2 n ad o (if (sp_lose σ (xs (i + 1).toNatClampNeg)).1 = 0 then vp_updL f 0 (sp_lose σ (xs (i + 1).toNatClampNeg)).2.1.toInt64 else f)) (fun _ => pgWL D cD cC cI cZ cL A ((sp_lose σ (xs (i + 1).toNatClampNeg)).2.2) n ad o (if (sp_lose σ (xs (i + 1).toNatClampNeg)).1 = 0 then vp_updL f 0 (sp_lose σ (xs (i + 1).toNatClampNeg)).2.1.toInt64 else f) σ ρ th md) hW q_380 q_381 q_0 q_382 hdL_lose rfl ⟨Nat.le_of_ble_eq_true rfl, Nat.le_of_ble_eq_true rfl⟩ (Nat.le_of_ble_eq_true rfl) dL_law_968 rfl ⟨Nat.le_trans (Nat.add_le_add_left (Nat.le_of_ble_eq_true rfl) _) hcl.1, Nat.le_trans (Nat.add_le_add_left (Nat.le_of_ble_eq_true rfl) _) hcl.2⟩ (fun _ h => h.1) (fun _ h => h.new1) (fun _ h => h.1) (fun H H1 u h h1 hz hk => h.cls h1 hk) (fun r _ hp1 => ?_)
  subst hp1
  refine j_widen (k := cells + 5) (n := slots + 30) (Nat.add_le_add_left (Nat.le_of_ble_eq_true rfl) _) (Nat.add_le_add_left (Nat.le_of_ble_eq_true rfl) _) ?_
  refine j_istore B (L' := [(5, .int (pgKB (sp_lose σ (xs (i + 1).toNatClampNeg)).1)), (4, .int i), (3, .ref o), (2, .ref (md 0)), (1, .ref (ad 0)), (0, .ref b)]) dL_law_971 (by decide) rfl ?_
  refine j_aload_n B dL_law_973 3 rfl rfl ?_
  refine j_aload_n B dL_law_974 5 rfl rfl ?_
  refine j_iload B dL_law_975 1 rfl ?_
  refine j_iconst B (v := 1) dL_law_977 (by decide) ?_
  refine j_iadd B dL_law_978 ?_
  refine j_sld B hX hbl hbA g1 dL_law_979 ?_
  refine j_cVi B (S := Unit) 1 [.int (xs (i + 1).toNatClampNeg)] (WdC' := fun _ => pgM D cI cZ (fun z => A z ∧ z ≠ o ∧ ∀ k, k < 13 + n → z ≠ ad k) (sp_lose σ (xs (i + 1).toNatClampNeg)).2.2 ρ (pgKB (sp_lose σ (xs (i + 1).toNatClampNeg)).1) md) (fun _ => pgWL D cD cC cI cZ cL A ((sp_lose σ (xs (i + 1).toNatClampNeg)).2.2) n ad o (if (sp_lose σ (xs (i + 1).toNatClampNeg)).1 = 0 then vp_updL f 0 (sp_lose σ (xs (i + 1).toNatClampNeg)).2.1.toInt64 else f) ((sp_lose σ (xs (i + 1).toNatClampNeg)).2.2) ρ (pgKB (sp_lose σ (xs (i + 1).toNatClampNeg)).1) md) (c_X3_lose l D cD cC cI cZ cL (fun z => A z ∧ z ≠ o ∧ ∀ k, k < 13 + n → z ≠ ad k) σ ρ th md n hI (xs (i + 1).toNatClampNeg)) rfl (fun H h => h.2.m) q_642 q_643 q_644 q_3 q_645 hdX3_lose rfl ⟨Nat.le_of_ble_eq_true rfl, Nat.le_of_ble_eq_true rfl⟩ (Nat.le_of_ble_eq_true rfl) dL_law_980 rfl hcl (fun _ h => h.1) (fun _ h => h.new2) (fun _ h => h.2) (fun H H1 u h h1 hz hk => h.rf h1 hk) (fun r2 _ hp2 => ?_)
  refine j_istore B (L' := [(6, .int r2), (5, .int (pgKB (sp_lose σ (xs (i + 1).toNatClampNeg)).1)), (4, .int i), (3, .ref o), (2, .ref (md 0)), (1, .ref (ad 0)), (0, .ref b)]) dL_law_983 (by decide) rfl ?_
  refine j_aload_n B dL_law_985 4 rfl rfl ?_
  refine j_cVi B (S := Unit) 0 [] (WdC' := fun _ => pgM D cI cZ (fun z => A z ∧ z ≠ o ∧ ∀ k, k < 13 + n → z ≠ ad k) (sp_lose σ (xs (i + 1).toNatClampNeg)).2.2 ρ (pgKB (sp_lose σ (xs (i + 1).toNatClampNeg)).1) md) (fun _ => pgWL D cD cC cI cZ cL A ((sp_lose σ (xs (i + 1).toNatClampNeg)).2.2) n ad o (if (sp_lose σ (xs (i + 1).toNatClampNeg)).1 = 0 then vp_updL f 0 (sp_lose σ (xs (i + 1).toNatClampNeg)).2.1.toInt64 else f) ((sp_lose σ (xs (i + 1).toNatClampNeg)).2.2) ρ (pgKB (sp_lose σ (xs (i + 1).toNatClampNeg)).1) md) (c_X3_thrown l D cD cC cI cZ cL (fun z => A z ∧ z ≠ o ∧ ∀ k, k < 13 + n → z ≠ ad k) ((sp_lose σ (xs (i + 1).toNatClampNeg)).2.2) ρ (pgKB (sp_lose σ (xs (i + 1).toNatClampNeg)).1) md) rfl (fun H h => h.2.m) q_565 q_566 q_567 q_3 q_568 hdX3_thrown rfl ⟨Nat.le_of_ble_eq_true rfl, Nat.le_of_ble_eq_true rfl⟩ (Nat.le_of_ble_eq_true rfl) dL_law_986 rfl hcl (fun _ h => h.1) (fun _ h => h.new2) (fun _ h => h.2) (fun H H1 u h h1 hz hk => h.rf h1 hk) (fun r3 _ hp3 => ?_)
  subst hp3
  refine j_iload B dL_law_989 1 rfl ?_
  refine j_icmp_eq B 996 dL_law_991 (by decide) (fun _ => ?_) (fun h => absurd rfl h)
  refine j_iload B dL_law_996 1 rfl ?_
  refine j_if_ne B 1013 dL_law_998 (by decide) (fun _ => ?_) (fun h => ?_)
  · refine j_goto B 1760 dL_law_1013 (by decide) ?_
    refine j_locals (L' := [(4, .int i), (3, .ref o), (2, .ref (md 0)), (1, .ref (ad 0)), (0, .ref b)]) [2, 3, 4, 5, 6] rfl ?_
    exact kk _ _ _ _ _ _ kp.1 kp.2 rfl
  · have h0 := (pg_kx0 (by have := hsc.1; omega)).2 h
    refine j_aload_n B dL_law_1001 3 rfl rfl ?_
    refine j_iconst B (v := 0) dL_law_1002 (by decide) ?_
    refine j_lald B (fun H h => h.1.2.1) 4 rfl pg_in01 dL_law_1003 ?_
    refine j_iload B dL_law_1004 0 rfl ?_
    refine j_i2l B dL_law_1006 ?_
    refine j_lcmp B dL_law_1007 ?_
    refine j_if_eq B 1013 dL_law_1008 (by decide) (fun _ => ?_) (fun h9 => absurd (pg_cmp9 h0 (congrArg Int32.toInt64 (hp2 h0).symm)) h9)
    refine j_goto B 1760 dL_law_1013 (by decide) ?_
    refine j_locals (L' := [(4, .int i), (3, .ref o), (2, .ref (md 0)), (1, .ref (ad 0)), (0, .ref b)]) [2, 3, 4, 5, 6] rfl ?_
    exact kk _ _ _ _ _ _ kp.1 kp.2 rfl
set_option maxHeartbeats 4000000 in
set_option maxRecDepth 100000 in
/-- case 12: find -/
theorem law_find {p : Program} {l : Launch} {e : Env} {s : State} {m : MethodId} {args : Array Value} {below : List Frame} {meth : Method} {c : Code} {D : va_G} {cD cC cI cZ cL : ClassId} {A : Nat → Prop} {Q : State → Prop} (hl : l.stackTraces = false) (B : pgB p m c s args meth RL cL_law 7 D (pgTys cD cC cI cZ cL) A) {b L0 : Nat} {xs : Nat → Int32} (hX : va_X b L0 xs s s.heap) (hbl : b < s.heap.size) (hbA : ¬ A b) {i : Int32} (g1 : vp_in (i + 1) L0) (g2 : vp_in (i + 2) L0) (g3 : vp_in (i + 3) L0) {σ : pgSt} {n : Nat} {ad : Nat → Nat} {o : Nat} {f : Nat → Int64} {ρ : Nat → Int32} {th : Int32} {md : Nat → Nat} (hI : pgI n σ) (hR : pgRho σ ρ) {cells slots : Nat} (hcl : cells + 5 ≤ room_1.cells ∧ slots + 30 ≤ room_1.slots)
    (kk : ∀ (σ2 : pgSt) (n2 : Nat) (ad2 : Nat → Nat) (f2 : Nat → Int64) (ρ2 : Nat → Int32) (th2 : Int32), pgI n2 σ2 → pgRho σ2 ρ2 → ad2 0 = ad 0 → pgJ p l e room_1 s m args below meth c 7 A (pgWL D cD cC cI cZ cL A σ2 n2 ad2 o f2 σ2 ρ2 th2 md) (cells + 5) (slots + 30) Q 1760 [(4, .int i), (3, .ref o), (2, .ref (md 0)), (1, .ref (ad 0)), (0, .ref b)] []) : pgJ p l e room_1 s m args below meth c 7 A (pgWL D cD cC cI cZ cL A σ n ad o f σ ρ th md) cells slots Q 1016 [(4, .int i), (3, .ref o), (2, .ref (md 0)), (1, .ref (ad 0)), (0, .ref b)] [] := by
  have hsc := @sc_find σ (xs (i + 1).toNatClampNeg)
  have kp : pgI n (sp_find σ (xs (i + 1).toNatClampNeg)).2.2 ∧ pgRho (sp_find σ (xs (i + 1).toNatClampNeg)).2.2 ρ := kp_find hI hR
  have hW := c_L_find l hl D cD cC cI cZ cL (fun z => A z ∧ ∀ k, k < 14 → z ≠ md k) σ n ad o f hI (xs (i + 1).toNatClampNeg)
  refine j_aload_n B dL_law_1016 3 rfl rfl ?_
  refine j_aload_n B dL_law_1017 4 rfl rfl ?_
  refine j_iload B dL_law_1018 0 rfl ?_
  refine j_iconst B (v := 1) dL_law_1020 (by decide) ?_
  refine j_iadd B dL_law_1021 ?_
  refine j_sld B hX hbl hbA g1 dL_law_1022 ?_
  refine j_aload_n B dL_law_1023 1 rfl rfl ?_
  refine j_cWi B (S := Unit) 3 [.ref (ad 0), .int (xs (i + 1).toNatClampNeg), .ref o] (WdC' := fun _ => pgWO D cD cC cL (fun z => A z ∧ ∀ k, k < 14 → z ≠ md k) (sp_find σ (xs (i + 1).toNatClampNeg)).2.2 n ad o (if (sp_find σ (xs (i + 1).toNatClampNeg)).1 = 0 then vp_updL f 0 (sp_find σ (xs (i + 1).toNatClampNeg)).2.1.toInt64 else f)) (fun _ => pgWL D cD cC cI cZ cL A ((sp_find σ (xs (i + 1).toNatClampNeg)).2.2) n ad o (if (sp_find σ (xs (i + 1).toNatClampNeg)).1 = 0 then vp_updL f 0 (sp_find σ (xs (i + 1).toNatClampNeg)).2.1.toInt64 else f) σ ρ th md) hW q_388 q_389 q_0 q_390 hdL_find rfl ⟨Nat.le_of_ble_eq_true rfl, Nat.le_of_ble_eq_true rfl⟩ (Nat.le_of_ble_eq_true rfl) dL_law_1024 rfl ⟨Nat.le_trans (Nat.add_le_add_left (Nat.le_of_ble_eq_true rfl) _) hcl.1, Nat.le_trans (Nat.add_le_add_left (Nat.le_of_ble_eq_true rfl) _) hcl.2⟩ (fun _ h => h.1) (fun _ h => h.new1) (fun _ h => h.1) (fun H H1 u h h1 hz hk => h.cls h1 hk) (fun r _ hp1 => ?_)
  subst hp1
  refine j_widen (k := cells + 5) (n := slots + 30) (Nat.add_le_add_left (Nat.le_of_ble_eq_true rfl) _) (Nat.add_le_add_left (Nat.le_of_ble_eq_true rfl) _) ?_
  refine j_istore B (L' := [(5, .int (pgKB (sp_find σ (xs (i + 1).toNatClampNeg)).1)), (4, .int i), (3, .ref o), (2, .ref (md 0)), (1, .ref (ad 0)), (0, .ref b)]) dL_law_1027 (by decide) rfl ?_
  refine j_aload_n B dL_law_1029 3 rfl rfl ?_
  refine j_aload_n B dL_law_1030 5 rfl rfl ?_
  refine j_iload B dL_law_1031 1 rfl ?_
  refine j_iconst B (v := 1) dL_law_1033 (by decide) ?_
  refine j_iadd B dL_law_1034 ?_
  refine j_sld B hX hbl hbA g1 dL_law_1035 ?_
  refine j_cVi B (S := Unit) 1 [.int (xs (i + 1).toNatClampNeg)] (WdC' := fun _ => pgM D cI cZ (fun z => A z ∧ z ≠ o ∧ ∀ k, k < 13 + n → z ≠ ad k) (sp_find σ (xs (i + 1).toNatClampNeg)).2.2 ρ (pgKB (sp_find σ (xs (i + 1).toNatClampNeg)).1) md) (fun _ => pgWL D cD cC cI cZ cL A ((sp_find σ (xs (i + 1).toNatClampNeg)).2.2) n ad o (if (sp_find σ (xs (i + 1).toNatClampNeg)).1 = 0 then vp_updL f 0 (sp_find σ (xs (i + 1).toNatClampNeg)).2.1.toInt64 else f) ((sp_find σ (xs (i + 1).toNatClampNeg)).2.2) ρ (pgKB (sp_find σ (xs (i + 1).toNatClampNeg)).1) md) (c_X3_find l D cD cC cI cZ cL (fun z => A z ∧ z ≠ o ∧ ∀ k, k < 13 + n → z ≠ ad k) σ ρ th md n hI (xs (i + 1).toNatClampNeg)) rfl (fun H h => h.2.m) q_646 q_647 q_648 q_3 q_649 hdX3_find rfl ⟨Nat.le_of_ble_eq_true rfl, Nat.le_of_ble_eq_true rfl⟩ (Nat.le_of_ble_eq_true rfl) dL_law_1036 rfl hcl (fun _ h => h.1) (fun _ h => h.new2) (fun _ h => h.2) (fun H H1 u h h1 hz hk => h.rf h1 hk) (fun r2 _ hp2 => ?_)
  refine j_istore B (L' := [(6, .int r2), (5, .int (pgKB (sp_find σ (xs (i + 1).toNatClampNeg)).1)), (4, .int i), (3, .ref o), (2, .ref (md 0)), (1, .ref (ad 0)), (0, .ref b)]) dL_law_1039 (by decide) rfl ?_
  refine j_aload_n B dL_law_1041 4 rfl rfl ?_
  refine j_cVi B (S := Unit) 0 [] (WdC' := fun _ => pgM D cI cZ (fun z => A z ∧ z ≠ o ∧ ∀ k, k < 13 + n → z ≠ ad k) (sp_find σ (xs (i + 1).toNatClampNeg)).2.2 ρ (pgKB (sp_find σ (xs (i + 1).toNatClampNeg)).1) md) (fun _ => pgWL D cD cC cI cZ cL A ((sp_find σ (xs (i + 1).toNatClampNeg)).2.2) n ad o (if (sp_find σ (xs (i + 1).toNatClampNeg)).1 = 0 then vp_updL f 0 (sp_find σ (xs (i + 1).toNatClampNeg)).2.1.toInt64 else f) ((sp_find σ (xs (i + 1).toNatClampNeg)).2.2) ρ (pgKB (sp_find σ (xs (i + 1).toNatClampNeg)).1) md) (c_X3_thrown l D cD cC cI cZ cL (fun z => A z ∧ z ≠ o ∧ ∀ k, k < 13 + n → z ≠ ad k) ((sp_find σ (xs (i + 1).toNatClampNeg)).2.2) ρ (pgKB (sp_find σ (xs (i + 1).toNatClampNeg)).1) md) rfl (fun H h => h.2.m) q_565 q_566 q_567 q_3 q_568 hdX3_thrown rfl ⟨Nat.le_of_ble_eq_true rfl, Nat.le_of_ble_eq_true rfl⟩ (Nat.le_of_ble_eq_true rfl) dL_law_1042 rfl hcl (fun _ h => h.1) (fun _ h => h.new2) (fun _ h => h.2) (fun H H1 u h h1 hz hk => h.rf h1 hk) (fun r3 _ hp3 => ?_)
  subst hp3
  refine j_iload B dL_law_1045 1 rfl ?_
  refine j_icmp_eq B 1052 dL_law_1047 (by decide) (fun _ => ?_) (fun h => absurd rfl h)
  refine j_iload B dL_law_1052 1 rfl ?_
  refine j_if_ne B 1069 dL_law_1054 (by decide) (fun _ => ?_) (fun h => ?_)
  · refine j_goto B 1760 dL_law_1069 (by decide) ?_
    refine j_locals (L' := [(4, .int i), (3, .ref o), (2, .ref (md 0)), (1, .ref (ad 0)), (0, .ref b)]) [2, 3, 4, 5, 6] rfl ?_
    exact kk _ _ _ _ _ _ kp.1 kp.2 rfl
  · have h0 := (pg_kx0 (by have := hsc.1; omega)).2 h
    refine j_aload_n B dL_law_1057 3 rfl rfl ?_
    refine j_iconst B (v := 0) dL_law_1058 (by decide) ?_
    refine j_lald B (fun H h => h.1.2.1) 4 rfl pg_in01 dL_law_1059 ?_
    refine j_iload B dL_law_1060 0 rfl ?_
    refine j_i2l B dL_law_1062 ?_
    refine j_lcmp B dL_law_1063 ?_
    refine j_if_eq B 1069 dL_law_1064 (by decide) (fun _ => ?_) (fun h9 => absurd (pg_cmp9 h0 (congrArg Int32.toInt64 (hp2 h0).symm)) h9)
    refine j_goto B 1760 dL_law_1069 (by decide) ?_
    refine j_locals (L' := [(4, .int i), (3, .ref o), (2, .ref (md 0)), (1, .ref (ad 0)), (0, .ref b)]) [2, 3, 4, 5, 6] rfl ?_
    exact kk _ _ _ _ _ _ kp.1 kp.2 rfl
set_option maxHeartbeats 4000000 in
set_option maxRecDepth 100000 in
/-- case 13: certify -/
theorem law_certify {p : Program} {l : Launch} {e : Env} {s : State} {m : MethodId} {args : Array Value} {below : List Frame} {meth : Method} {c : Code} {D : va_G} {cD cC cI cZ cL : ClassId} {A : Nat → Prop} {Q : State → Prop} (hl : l.stackTraces = false) (B : pgB p m c s args meth RL cL_law 7 D (pgTys cD cC cI cZ cL) A) {b L0 : Nat} {xs : Nat → Int32} (hX : va_X b L0 xs s s.heap) (hbl : b < s.heap.size) (hbA : ¬ A b) {i : Int32} (g1 : vp_in (i + 1) L0) (g2 : vp_in (i + 2) L0) (g3 : vp_in (i + 3) L0) {σ : pgSt} {n : Nat} {ad : Nat → Nat} {o : Nat} {f : Nat → Int64} {ρ : Nat → Int32} {th : Int32} {md : Nat → Nat} (hI : pgI n σ) (hR : pgRho σ ρ) {cells slots : Nat} (hcl : cells + 5 ≤ room_1.cells ∧ slots + 30 ≤ room_1.slots)
    (kk : ∀ (σ2 : pgSt) (n2 : Nat) (ad2 : Nat → Nat) (f2 : Nat → Int64) (ρ2 : Nat → Int32) (th2 : Int32), pgI n2 σ2 → pgRho σ2 ρ2 → ad2 0 = ad 0 → pgJ p l e room_1 s m args below meth c 7 A (pgWL D cD cC cI cZ cL A σ2 n2 ad2 o f2 σ2 ρ2 th2 md) (cells + 5) (slots + 30) Q 1760 [(4, .int i), (3, .ref o), (2, .ref (md 0)), (1, .ref (ad 0)), (0, .ref b)] []) : pgJ p l e room_1 s m args below meth c 7 A (pgWL D cD cC cI cZ cL A σ n ad o f σ ρ th md) cells slots Q 1072 [(4, .int i), (3, .ref o), (2, .ref (md 0)), (1, .ref (ad 0)), (0, .ref b)] [] := by
  have hsc := @sc_certify σ (xs (i + 1).toNatClampNeg)
  have kp : pgI n (sp_certify σ (xs (i + 1).toNatClampNeg)).2.2 ∧ pgRho (sp_certify σ (xs (i + 1).toNatClampNeg)).2.2 ρ := kp_certify hI hR
  have hW := c_L_certify l hl D cD cC cI cZ cL (fun z => A z ∧ ∀ k, k < 14 → z ≠ md k) σ n ad o f hI (xs (i + 1).toNatClampNeg)
  refine j_aload_n B dL_law_1072 3 rfl rfl ?_
  refine j_aload_n B dL_law_1073 4 rfl rfl ?_
  refine j_iload B dL_law_1074 0 rfl ?_
  refine j_iconst B (v := 1) dL_law_1076 (by decide) ?_
  refine j_iadd B dL_law_1077 ?_
  refine j_sld B hX hbl hbA g1 dL_law_1078 ?_
  refine j_aload_n B dL_law_1079 1 rfl rfl ?_
  refine j_cWi B (S := Unit) 3 [.ref (ad 0), .int (xs (i + 1).toNatClampNeg), .ref o] (WdC' := fun _ => pgWO D cD cC cL (fun z => A z ∧ ∀ k, k < 14 → z ≠ md k) (sp_certify σ (xs (i + 1).toNatClampNeg)).2.2 n ad o (if (sp_certify σ (xs (i + 1).toNatClampNeg)).1 = 0 then vp_updL f 0 (sp_certify σ (xs (i + 1).toNatClampNeg)).2.1.toInt64 else f)) (fun _ => pgWL D cD cC cI cZ cL A ((sp_certify σ (xs (i + 1).toNatClampNeg)).2.2) n ad o (if (sp_certify σ (xs (i + 1).toNatClampNeg)).1 = 0 then vp_updL f 0 (sp_certify σ (xs (i + 1).toNatClampNeg)).2.1.toInt64 else f) σ ρ th md) hW q_396 q_397 q_0 q_398 hdL_certify rfl ⟨Nat.le_of_ble_eq_true rfl, Nat.le_of_ble_eq_true rfl⟩ (Nat.le_of_ble_eq_true rfl) dL_law_1080 rfl ⟨Nat.le_trans (Nat.add_le_add_left (Nat.le_of_ble_eq_true rfl) _) hcl.1, Nat.le_trans (Nat.add_le_add_left (Nat.le_of_ble_eq_true rfl) _) hcl.2⟩ (fun _ h => h.1) (fun _ h => h.new1) (fun _ h => h.1) (fun H H1 u h h1 hz hk => h.cls h1 hk) (fun r _ hp1 => ?_)
  subst hp1
  refine j_widen (k := cells + 5) (n := slots + 30) (Nat.add_le_add_left (Nat.le_of_ble_eq_true rfl) _) (Nat.add_le_add_left (Nat.le_of_ble_eq_true rfl) _) ?_
  refine j_istore B (L' := [(5, .int (pgKB (sp_certify σ (xs (i + 1).toNatClampNeg)).1)), (4, .int i), (3, .ref o), (2, .ref (md 0)), (1, .ref (ad 0)), (0, .ref b)]) dL_law_1083 (by decide) rfl ?_
  refine j_aload_n B dL_law_1085 3 rfl rfl ?_
  refine j_aload_n B dL_law_1086 5 rfl rfl ?_
  refine j_iload B dL_law_1087 1 rfl ?_
  refine j_iconst B (v := 1) dL_law_1089 (by decide) ?_
  refine j_iadd B dL_law_1090 ?_
  refine j_sld B hX hbl hbA g1 dL_law_1091 ?_
  refine j_cVi B (S := Unit) 1 [.int (xs (i + 1).toNatClampNeg)] (WdC' := fun _ => pgM D cI cZ (fun z => A z ∧ z ≠ o ∧ ∀ k, k < 13 + n → z ≠ ad k) (sp_certify σ (xs (i + 1).toNatClampNeg)).2.2 ρ (pgKB (sp_certify σ (xs (i + 1).toNatClampNeg)).1) md) (fun _ => pgWL D cD cC cI cZ cL A ((sp_certify σ (xs (i + 1).toNatClampNeg)).2.2) n ad o (if (sp_certify σ (xs (i + 1).toNatClampNeg)).1 = 0 then vp_updL f 0 (sp_certify σ (xs (i + 1).toNatClampNeg)).2.1.toInt64 else f) ((sp_certify σ (xs (i + 1).toNatClampNeg)).2.2) ρ (pgKB (sp_certify σ (xs (i + 1).toNatClampNeg)).1) md) (c_X3_certify l D cD cC cI cZ cL (fun z => A z ∧ z ≠ o ∧ ∀ k, k < 13 + n → z ≠ ad k) σ ρ th md n hI (xs (i + 1).toNatClampNeg)) rfl (fun H h => h.2.m) q_650 q_651 q_652 q_3 q_653 hdX3_certify rfl ⟨Nat.le_of_ble_eq_true rfl, Nat.le_of_ble_eq_true rfl⟩ (Nat.le_of_ble_eq_true rfl) dL_law_1092 rfl hcl (fun _ h => h.1) (fun _ h => h.new2) (fun _ h => h.2) (fun H H1 u h h1 hz hk => h.rf h1 hk) (fun r2 _ hp2 => ?_)
  refine j_istore B (L' := [(6, .int r2), (5, .int (pgKB (sp_certify σ (xs (i + 1).toNatClampNeg)).1)), (4, .int i), (3, .ref o), (2, .ref (md 0)), (1, .ref (ad 0)), (0, .ref b)]) dL_law_1095 (by decide) rfl ?_
  refine j_aload_n B dL_law_1097 4 rfl rfl ?_
  refine j_cVi B (S := Unit) 0 [] (WdC' := fun _ => pgM D cI cZ (fun z => A z ∧ z ≠ o ∧ ∀ k, k < 13 + n → z ≠ ad k) (sp_certify σ (xs (i + 1).toNatClampNeg)).2.2 ρ (pgKB (sp_certify σ (xs (i + 1).toNatClampNeg)).1) md) (fun _ => pgWL D cD cC cI cZ cL A ((sp_certify σ (xs (i + 1).toNatClampNeg)).2.2) n ad o (if (sp_certify σ (xs (i + 1).toNatClampNeg)).1 = 0 then vp_updL f 0 (sp_certify σ (xs (i + 1).toNatClampNeg)).2.1.toInt64 else f) ((sp_certify σ (xs (i + 1).toNatClampNeg)).2.2) ρ (pgKB (sp_certify σ (xs (i + 1).toNatClampNeg)).1) md) (c_X3_thrown l D cD cC cI cZ cL (fun z => A z ∧ z ≠ o ∧ ∀ k, k < 13 + n → z ≠ ad k) ((sp_certify σ (xs (i + 1).toNatClampNeg)).2.2) ρ (pgKB (sp_certify σ (xs (i + 1).toNatClampNeg)).1) md) rfl (fun H h => h.2.m) q_565 q_566 q_567 q_3 q_568 hdX3_thrown rfl ⟨Nat.le_of_ble_eq_true rfl, Nat.le_of_ble_eq_true rfl⟩ (Nat.le_of_ble_eq_true rfl) dL_law_1098 rfl hcl (fun _ h => h.1) (fun _ h => h.new2) (fun _ h => h.2) (fun H H1 u h h1 hz hk => h.rf h1 hk) (fun r3 _ hp3 => ?_)
  subst hp3
  refine j_iload B dL_law_1101 1 rfl ?_
  refine j_icmp_eq B 1108 dL_law_1103 (by decide) (fun _ => ?_) (fun h => absurd rfl h)
  refine j_iload B dL_law_1108 1 rfl ?_
  refine j_if_ne B 1125 dL_law_1110 (by decide) (fun _ => ?_) (fun h => ?_)
  · refine j_goto B 1760 dL_law_1125 (by decide) ?_
    refine j_locals (L' := [(4, .int i), (3, .ref o), (2, .ref (md 0)), (1, .ref (ad 0)), (0, .ref b)]) [2, 3, 4, 5, 6] rfl ?_
    exact kk _ _ _ _ _ _ kp.1 kp.2 rfl
  · have h0 := (pg_kx0 (by have := hsc.1; omega)).2 h
    refine j_aload_n B dL_law_1113 3 rfl rfl ?_
    refine j_iconst B (v := 0) dL_law_1114 (by decide) ?_
    refine j_lald B (fun H h => h.1.2.1) 4 rfl pg_in01 dL_law_1115 ?_
    refine j_iload B dL_law_1116 0 rfl ?_
    refine j_i2l B dL_law_1118 ?_
    refine j_lcmp B dL_law_1119 ?_
    refine j_if_eq B 1125 dL_law_1120 (by decide) (fun _ => ?_) (fun h9 => absurd (pg_cmp9 h0 (congrArg Int32.toInt64 (hp2 h0).symm)) h9)
    refine j_goto B 1760 dL_law_1125 (by decide) ?_
    refine j_locals (L' := [(4, .int i), (3, .ref o), (2, .ref (md 0)), (1, .ref (ad 0)), (0, .ref b)]) [2, 3, 4, 5, 6] rfl ?_
    exact kk _ _ _ _ _ _ kp.1 kp.2 rfl
set_option maxHeartbeats 4000000 in
set_option maxRecDepth 100000 in
/-- case 14: disks -/
theorem law_disks {p : Program} {l : Launch} {e : Env} {s : State} {m : MethodId} {args : Array Value} {below : List Frame} {meth : Method} {c : Code} {D : va_G} {cD cC cI cZ cL : ClassId} {A : Nat → Prop} {Q : State → Prop} (hl : l.stackTraces = false) (B : pgB p m c s args meth RL cL_law 7 D (pgTys cD cC cI cZ cL) A) {b L0 : Nat} {xs : Nat → Int32} (hX : va_X b L0 xs s s.heap) (hbl : b < s.heap.size) (hbA : ¬ A b) {i : Int32} (g1 : vp_in (i + 1) L0) (g2 : vp_in (i + 2) L0) (g3 : vp_in (i + 3) L0) {σ : pgSt} {n : Nat} {ad : Nat → Nat} {o : Nat} {f : Nat → Int64} {ρ : Nat → Int32} {th : Int32} {md : Nat → Nat} (hI : pgI n σ) (hR : pgRho σ ρ) {cells slots : Nat} (hcl : cells + 5 ≤ room_1.cells ∧ slots + 30 ≤ room_1.slots)
    (kk : ∀ (σ2 : pgSt) (n2 : Nat) (ad2 : Nat → Nat) (f2 : Nat → Int64) (ρ2 : Nat → Int32) (th2 : Int32), pgI n2 σ2 → pgRho σ2 ρ2 → ad2 0 = ad 0 → pgJ p l e room_1 s m args below meth c 7 A (pgWL D cD cC cI cZ cL A σ2 n2 ad2 o f2 σ2 ρ2 th2 md) (cells + 5) (slots + 30) Q 1760 [(4, .int i), (3, .ref o), (2, .ref (md 0)), (1, .ref (ad 0)), (0, .ref b)] []) : pgJ p l e room_1 s m args below meth c 7 A (pgWL D cD cC cI cZ cL A σ n ad o f σ ρ th md) cells slots Q 1128 [(4, .int i), (3, .ref o), (2, .ref (md 0)), (1, .ref (ad 0)), (0, .ref b)] [] := by
  refine j_aload_n B dL_law_1128 3 rfl rfl ?_
  refine j_cVi B (S := Unit) 0 [] (WdC' := fun _ => pgR D cD cC (fun z => (A z ∧ ∀ k, k < 14 → z ≠ md k) ∧ z ≠ o) σ n ad) (fun _ => pgWL D cD cC cI cZ cL A σ n ad o f σ ρ th md) (c_X2_disks l D cD cC cI cZ cL (fun z => (A z ∧ ∀ k, k < 14 → z ≠ md k) ∧ z ≠ o) σ n ad) rfl (fun H h => h.1.1.x) q_67 q_68 q_69 q_1 q_70 hdX2_disks rfl ⟨Nat.le_of_ble_eq_true rfl, Nat.le_of_ble_eq_true rfl⟩ (Nat.le_of_ble_eq_true rfl) dL_law_1129 rfl ⟨Nat.le_trans (Nat.add_le_add_left (Nat.le_of_ble_eq_true rfl) _) hcl.1, Nat.le_trans (Nat.add_le_add_left (Nat.le_of_ble_eq_true rfl) _) hcl.2⟩ (fun _ h => h.1.1) (fun _ h => h.new0) (fun _ h => h.1.1) (fun H H1 u h h1 hz hk => h.cls0 h1 hk) (fun r _ hp1 => ?_)
  subst hp1
  refine j_widen (k := cells + 5) (n := slots + 30) (Nat.add_le_add_left (Nat.le_of_ble_eq_true rfl) _) (Nat.add_le_add_left (Nat.le_of_ble_eq_true rfl) _) ?_
  refine j_aload_n B dL_law_1132 2 rfl rfl ?_
  refine j_cVi B (S := Unit) 0 [] (WdC' := fun _ => pgM D cI cZ (fun z => A z ∧ z ≠ o ∧ ∀ k, k < 13 + n → z ≠ ad k) σ ρ 0 md) (fun _ => pgWL D cD cC cI cZ cL A σ n ad o f σ ρ 0 md) (c_X3_disks l D cD cC cI cZ cL (fun z => A z ∧ z ≠ o ∧ ∀ k, k < 13 + n → z ≠ ad k) σ ρ th md) rfl (fun H h => h.2.m) q_658 q_659 q_660 q_3 q_661 hdX3_disks rfl ⟨Nat.le_of_ble_eq_true rfl, Nat.le_of_ble_eq_true rfl⟩ (Nat.le_of_ble_eq_true rfl) dL_law_1133 rfl hcl (fun _ h => h.1) (fun _ h => h.new2) (fun _ h => h.2) (fun H H1 u h h1 hz hk => h.rf h1 hk) (fun r2 _ hp2 => ?_)
  subst hp2
  refine j_icmp_eq B 1760 dL_law_1136 (by decide) (fun _ => ?_) (fun h => absurd rfl h)
  exact kk _ _ _ _ _ _ hI hR rfl
set_option maxHeartbeats 4000000 in
set_option maxRecDepth 100000 in
/-- case 15: keeperOf -/
theorem law_keeperOf {p : Program} {l : Launch} {e : Env} {s : State} {m : MethodId} {args : Array Value} {below : List Frame} {meth : Method} {c : Code} {D : va_G} {cD cC cI cZ cL : ClassId} {A : Nat → Prop} {Q : State → Prop} (hl : l.stackTraces = false) (B : pgB p m c s args meth RL cL_law 7 D (pgTys cD cC cI cZ cL) A) {b L0 : Nat} {xs : Nat → Int32} (hX : va_X b L0 xs s s.heap) (hbl : b < s.heap.size) (hbA : ¬ A b) {i : Int32} (g1 : vp_in (i + 1) L0) (g2 : vp_in (i + 2) L0) (g3 : vp_in (i + 3) L0) {σ : pgSt} {n : Nat} {ad : Nat → Nat} {o : Nat} {f : Nat → Int64} {ρ : Nat → Int32} {th : Int32} {md : Nat → Nat} (hI : pgI n σ) (hR : pgRho σ ρ) {cells slots : Nat} (hcl : cells + 5 ≤ room_1.cells ∧ slots + 30 ≤ room_1.slots)
    (kk : ∀ (σ2 : pgSt) (n2 : Nat) (ad2 : Nat → Nat) (f2 : Nat → Int64) (ρ2 : Nat → Int32) (th2 : Int32), pgI n2 σ2 → pgRho σ2 ρ2 → ad2 0 = ad 0 → pgJ p l e room_1 s m args below meth c 7 A (pgWL D cD cC cI cZ cL A σ2 n2 ad2 o f2 σ2 ρ2 th2 md) (cells + 5) (slots + 30) Q 1760 [(4, .int i), (3, .ref o), (2, .ref (md 0)), (1, .ref (ad 0)), (0, .ref b)] []) : pgJ p l e room_1 s m args below meth c 7 A (pgWL D cD cC cI cZ cL A σ n ad o f σ ρ th md) cells slots Q 1141 [(4, .int i), (3, .ref o), (2, .ref (md 0)), (1, .ref (ad 0)), (0, .ref b)] [] := by
  have hsc := @sc_askD σ (xs (i + 1).toNatClampNeg) 2
  have kp : pgI n (sp_askD σ (xs (i + 1).toNatClampNeg) 2).2.2 ∧ pgRho (sp_askD σ (xs (i + 1).toNatClampNeg) 2).2.2 ρ := by rw [ss_askD]; exact ⟨hI, hR⟩
  have hW := c_L_keeperOf l hl D cD cC cI cZ cL (fun z => A z ∧ ∀ k, k < 14 → z ≠ md k) σ n ad o f hI (xs (i + 1).toNatClampNeg)
  refine j_aload_n B dL_law_1141 3 rfl rfl ?_
  refine j_aload_n B dL_law_1142 4 rfl rfl ?_
  refine j_iload B dL_law_1143 0 rfl ?_
  refine j_iconst B (v := 1) dL_law_1145 (by decide) ?_
  refine j_iadd B dL_law_1146 ?_
  refine j_sld B hX hbl hbA g1 dL_law_1147 ?_
  refine j_aload_n B dL_law_1148 1 rfl rfl ?_
  refine j_cWi B (S := Unit) 3 [.ref (ad 0), .int (xs (i + 1).toNatClampNeg), .ref o] (WdC' := fun _ => pgWO D cD cC cL (fun z => A z ∧ ∀ k, k < 14 → z ≠ md k) (sp_askD σ (xs (i + 1).toNatClampNeg) 2).2.2 n ad o (if (sp_askD σ (xs (i + 1).toNatClampNeg) 2).1 = 0 then vp_updL f 0 (sp_askD σ (xs (i + 1).toNatClampNeg) 2).2.1.toInt64 else f)) (fun _ => pgWL D cD cC cI cZ cL A ((sp_askD σ (xs (i + 1).toNatClampNeg) 2).2.2) n ad o (if (sp_askD σ (xs (i + 1).toNatClampNeg) 2).1 = 0 then vp_updL f 0 (sp_askD σ (xs (i + 1).toNatClampNeg) 2).2.1.toInt64 else f) σ ρ th md) hW q_428 q_429 q_0 q_430 hdL_keeperOf rfl ⟨Nat.le_of_ble_eq_true rfl, Nat.le_of_ble_eq_true rfl⟩ (Nat.le_of_ble_eq_true rfl) dL_law_1149 rfl ⟨Nat.le_trans (Nat.add_le_add_left (Nat.le_of_ble_eq_true rfl) _) hcl.1, Nat.le_trans (Nat.add_le_add_left (Nat.le_of_ble_eq_true rfl) _) hcl.2⟩ (fun _ h => h.1) (fun _ h => h.new1) (fun _ h => h.1) (fun H H1 u h h1 hz hk => h.cls h1 hk) (fun r _ hp1 => ?_)
  subst hp1
  refine j_widen (k := cells + 5) (n := slots + 30) (Nat.add_le_add_left (Nat.le_of_ble_eq_true rfl) _) (Nat.add_le_add_left (Nat.le_of_ble_eq_true rfl) _) ?_
  refine j_istore B (L' := [(5, .int (nI (sp_askD σ (xs (i + 1).toNatClampNeg) 2).1)), (4, .int i), (3, .ref o), (2, .ref (md 0)), (1, .ref (ad 0)), (0, .ref b)]) dL_law_1152 (by decide) rfl ?_
  refine j_aload_n B dL_law_1154 3 rfl rfl ?_
  refine j_aload_n B dL_law_1155 5 rfl rfl ?_
  refine j_iload B dL_law_1156 1 rfl ?_
  refine j_iconst B (v := 1) dL_law_1158 (by decide) ?_
  refine j_iadd B dL_law_1159 ?_
  refine j_sld B hX hbl hbA g1 dL_law_1160 ?_
  refine j_cVi B (S := Unit) 1 [.int (xs (i + 1).toNatClampNeg)] (WdC' := fun _ => pgM D cI cZ (fun z => A z ∧ z ≠ o ∧ ∀ k, k < 13 + n → z ≠ ad k) (sp_askD σ (xs (i + 1).toNatClampNeg) 2).2.2 ρ (nI (sp_askD σ (xs (i + 1).toNatClampNeg) 2).1) md) (fun _ => pgWL D cD cC cI cZ cL A ((sp_askD σ (xs (i + 1).toNatClampNeg) 2).2.2) n ad o (if (sp_askD σ (xs (i + 1).toNatClampNeg) 2).1 = 0 then vp_updL f 0 (sp_askD σ (xs (i + 1).toNatClampNeg) 2).2.1.toInt64 else f) ((sp_askD σ (xs (i + 1).toNatClampNeg) 2).2.2) ρ (nI (sp_askD σ (xs (i + 1).toNatClampNeg) 2).1) md) (c_X3_keeperOf l D cD cC cI cZ cL (fun z => A z ∧ z ≠ o ∧ ∀ k, k < 13 + n → z ≠ ad k) σ ρ th md n hI (xs (i + 1).toNatClampNeg)) rfl (fun H h => h.2.m) q_662 q_663 q_664 q_3 q_665 hdX3_keeperOf rfl ⟨Nat.le_of_ble_eq_true rfl, Nat.le_of_ble_eq_true rfl⟩ (Nat.le_of_ble_eq_true rfl) dL_law_1161 rfl hcl (fun _ h => h.1) (fun _ h => h.new2) (fun _ h => h.2) (fun H H1 u h h1 hz hk => h.rf h1 hk) (fun r2 _ hp2 => ?_)
  refine j_istore B (L' := [(6, .int r2), (5, .int (nI (sp_askD σ (xs (i + 1).toNatClampNeg) 2).1)), (4, .int i), (3, .ref o), (2, .ref (md 0)), (1, .ref (ad 0)), (0, .ref b)]) dL_law_1164 (by decide) rfl ?_
  refine j_aload_n B dL_law_1166 4 rfl rfl ?_
  refine j_cVi B (S := Unit) 0 [] (WdC' := fun _ => pgM D cI cZ (fun z => A z ∧ z ≠ o ∧ ∀ k, k < 13 + n → z ≠ ad k) (sp_askD σ (xs (i + 1).toNatClampNeg) 2).2.2 ρ (nI (sp_askD σ (xs (i + 1).toNatClampNeg) 2).1) md) (fun _ => pgWL D cD cC cI cZ cL A ((sp_askD σ (xs (i + 1).toNatClampNeg) 2).2.2) n ad o (if (sp_askD σ (xs (i + 1).toNatClampNeg) 2).1 = 0 then vp_updL f 0 (sp_askD σ (xs (i + 1).toNatClampNeg) 2).2.1.toInt64 else f) ((sp_askD σ (xs (i + 1).toNatClampNeg) 2).2.2) ρ (nI (sp_askD σ (xs (i + 1).toNatClampNeg) 2).1) md) (c_X3_thrown l D cD cC cI cZ cL (fun z => A z ∧ z ≠ o ∧ ∀ k, k < 13 + n → z ≠ ad k) ((sp_askD σ (xs (i + 1).toNatClampNeg) 2).2.2) ρ (nI (sp_askD σ (xs (i + 1).toNatClampNeg) 2).1) md) rfl (fun H h => h.2.m) q_565 q_566 q_567 q_3 q_568 hdX3_thrown rfl ⟨Nat.le_of_ble_eq_true rfl, Nat.le_of_ble_eq_true rfl⟩ (Nat.le_of_ble_eq_true rfl) dL_law_1167 rfl hcl (fun _ h => h.1) (fun _ h => h.new2) (fun _ h => h.2) (fun H H1 u h h1 hz hk => h.rf h1 hk) (fun r3 _ hp3 => ?_)
  subst hp3
  refine j_iload B dL_law_1170 1 rfl ?_
  refine j_icmp_eq B 1177 dL_law_1172 (by decide) (fun _ => ?_) (fun h => absurd rfl h)
  refine j_iload B dL_law_1177 1 rfl ?_
  refine j_if_ne B 1194 dL_law_1179 (by decide) (fun _ => ?_) (fun h => ?_)
  · refine j_goto B 1760 dL_law_1194 (by decide) ?_
    refine j_locals (L' := [(4, .int i), (3, .ref o), (2, .ref (md 0)), (1, .ref (ad 0)), (0, .ref b)]) [2, 3, 4, 5, 6] rfl ?_
    exact kk _ _ _ _ _ _ kp.1 kp.2 rfl
  · have h0 := (pg_kx0 (by have := hsc.1; omega)).1 h
    refine j_aload_n B dL_law_1182 3 rfl rfl ?_
    refine j_iconst B (v := 0) dL_law_1183 (by decide) ?_
    refine j_lald B (fun H h => h.1.2.1) 4 rfl pg_in01 dL_law_1184 ?_
    refine j_iload B dL_law_1185 0 rfl ?_
    refine j_i2l B dL_law_1187 ?_
    refine j_lcmp B dL_law_1188 ?_
    refine j_if_eq B 1194 dL_law_1189 (by decide) (fun _ => ?_) (fun h9 => absurd (pg_cmp9 h0 (congrArg Int32.toInt64 (hp2 h0).symm)) h9)
    refine j_goto B 1760 dL_law_1194 (by decide) ?_
    refine j_locals (L' := [(4, .int i), (3, .ref o), (2, .ref (md 0)), (1, .ref (ad 0)), (0, .ref b)]) [2, 3, 4, 5, 6] rfl ?_
    exact kk _ _ _ _ _ _ kp.1 kp.2 rfl
set_option maxHeartbeats 4000000 in
set_option maxRecDepth 100000 in
/-- case 16: keeperByLog -/
theorem law_keeperByLog {p : Program} {l : Launch} {e : Env} {s : State} {m : MethodId} {args : Array Value} {below : List Frame} {meth : Method} {c : Code} {D : va_G} {cD cC cI cZ cL : ClassId} {A : Nat → Prop} {Q : State → Prop} (hl : l.stackTraces = false) (B : pgB p m c s args meth RL cL_law 7 D (pgTys cD cC cI cZ cL) A) {b L0 : Nat} {xs : Nat → Int32} (hX : va_X b L0 xs s s.heap) (hbl : b < s.heap.size) (hbA : ¬ A b) {i : Int32} (g1 : vp_in (i + 1) L0) (g2 : vp_in (i + 2) L0) (g3 : vp_in (i + 3) L0) {σ : pgSt} {n : Nat} {ad : Nat → Nat} {o : Nat} {f : Nat → Int64} {ρ : Nat → Int32} {th : Int32} {md : Nat → Nat} (hI : pgI n σ) (hR : pgRho σ ρ) {cells slots : Nat} (hcl : cells + 5 ≤ room_1.cells ∧ slots + 30 ≤ room_1.slots)
    (kk : ∀ (σ2 : pgSt) (n2 : Nat) (ad2 : Nat → Nat) (f2 : Nat → Int64) (ρ2 : Nat → Int32) (th2 : Int32), pgI n2 σ2 → pgRho σ2 ρ2 → ad2 0 = ad 0 → pgJ p l e room_1 s m args below meth c 7 A (pgWL D cD cC cI cZ cL A σ2 n2 ad2 o f2 σ2 ρ2 th2 md) (cells + 5) (slots + 30) Q 1760 [(4, .int i), (3, .ref o), (2, .ref (md 0)), (1, .ref (ad 0)), (0, .ref b)] []) : pgJ p l e room_1 s m args below meth c 7 A (pgWL D cD cC cI cZ cL A σ n ad o f σ ρ th md) cells slots Q 1197 [(4, .int i), (3, .ref o), (2, .ref (md 0)), (1, .ref (ad 0)), (0, .ref b)] [] := by
  have hsc := @sc_askD σ (xs (i + 1).toNatClampNeg) 2
  have kp : pgI n (sp_askD σ (xs (i + 1).toNatClampNeg) 2).2.2 ∧ pgRho (sp_askD σ (xs (i + 1).toNatClampNeg) 2).2.2 ρ := by rw [ss_askD]; exact ⟨hI, hR⟩
  have hW := c_L_keeperByLog l hl D cD cC cI cZ cL (fun z => A z ∧ ∀ k, k < 14 → z ≠ md k) σ n ad o f hI (xs (i + 1).toNatClampNeg)
  rw [sp_log hI] at hW
  refine j_aload_n B dL_law_1197 3 rfl rfl ?_
  refine j_aload_n B dL_law_1198 4 rfl rfl ?_
  refine j_iload B dL_law_1199 0 rfl ?_
  refine j_iconst B (v := 1) dL_law_1201 (by decide) ?_
  refine j_iadd B dL_law_1202 ?_
  refine j_sld B hX hbl hbA g1 dL_law_1203 ?_
  refine j_aload_n B dL_law_1204 1 rfl rfl ?_
  refine j_cWi B (S := Unit) 3 [.ref (ad 0), .int (xs (i + 1).toNatClampNeg), .ref o] (WdC' := fun _ => pgWO D cD cC cL (fun z => A z ∧ ∀ k, k < 14 → z ≠ md k) (sp_askD σ (xs (i + 1).toNatClampNeg) 2).2.2 n ad o (if (sp_askD σ (xs (i + 1).toNatClampNeg) 2).1 = 0 then vp_updL f 0 (sp_askD σ (xs (i + 1).toNatClampNeg) 2).2.1.toInt64 else f)) (fun _ => pgWL D cD cC cI cZ cL A ((sp_askD σ (xs (i + 1).toNatClampNeg) 2).2.2) n ad o (if (sp_askD σ (xs (i + 1).toNatClampNeg) 2).1 = 0 then vp_updL f 0 (sp_askD σ (xs (i + 1).toNatClampNeg) 2).2.1.toInt64 else f) σ ρ th md) hW q_435 q_436 q_0 q_437 hdL_keeperByLog rfl ⟨Nat.le_of_ble_eq_true rfl, Nat.le_of_ble_eq_true rfl⟩ (Nat.le_of_ble_eq_true rfl) dL_law_1205 rfl ⟨Nat.le_trans (Nat.add_le_add_left (Nat.le_of_ble_eq_true rfl) _) hcl.1, Nat.le_trans (Nat.add_le_add_left (Nat.le_of_ble_eq_true rfl) _) hcl.2⟩ (fun _ h => h.1) (fun _ h => h.new1) (fun _ h => h.1) (fun H H1 u h h1 hz hk => h.cls h1 hk) (fun r _ hp1 => ?_)
  subst hp1
  refine j_widen (k := cells + 5) (n := slots + 30) (Nat.add_le_add_left (Nat.le_of_ble_eq_true rfl) _) (Nat.add_le_add_left (Nat.le_of_ble_eq_true rfl) _) ?_
  refine j_istore B (L' := [(5, .int (nI (sp_askD σ (xs (i + 1).toNatClampNeg) 2).1)), (4, .int i), (3, .ref o), (2, .ref (md 0)), (1, .ref (ad 0)), (0, .ref b)]) dL_law_1208 (by decide) rfl ?_
  refine j_aload_n B dL_law_1210 3 rfl rfl ?_
  refine j_aload_n B dL_law_1211 5 rfl rfl ?_
  refine j_iload B dL_law_1212 1 rfl ?_
  refine j_iconst B (v := 1) dL_law_1214 (by decide) ?_
  refine j_iadd B dL_law_1215 ?_
  refine j_sld B hX hbl hbA g1 dL_law_1216 ?_
  refine j_cVi B (S := Unit) 1 [.int (xs (i + 1).toNatClampNeg)] (WdC' := fun _ => pgM D cI cZ (fun z => A z ∧ z ≠ o ∧ ∀ k, k < 13 + n → z ≠ ad k) (sp_askD σ (xs (i + 1).toNatClampNeg) 2).2.2 ρ (nI (sp_askD σ (xs (i + 1).toNatClampNeg) 2).1) md) (fun _ => pgWL D cD cC cI cZ cL A ((sp_askD σ (xs (i + 1).toNatClampNeg) 2).2.2) n ad o (if (sp_askD σ (xs (i + 1).toNatClampNeg) 2).1 = 0 then vp_updL f 0 (sp_askD σ (xs (i + 1).toNatClampNeg) 2).2.1.toInt64 else f) ((sp_askD σ (xs (i + 1).toNatClampNeg) 2).2.2) ρ (nI (sp_askD σ (xs (i + 1).toNatClampNeg) 2).1) md) (c_X3_keeperByLog l D cD cC cI cZ cL (fun z => A z ∧ z ≠ o ∧ ∀ k, k < 13 + n → z ≠ ad k) σ ρ th md n hI (xs (i + 1).toNatClampNeg)) rfl (fun H h => h.2.m) q_670 q_671 q_672 q_3 q_673 hdX3_keeperByLog rfl ⟨Nat.le_of_ble_eq_true rfl, Nat.le_of_ble_eq_true rfl⟩ (Nat.le_of_ble_eq_true rfl) dL_law_1217 rfl hcl (fun _ h => h.1) (fun _ h => h.new2) (fun _ h => h.2) (fun H H1 u h h1 hz hk => h.rf h1 hk) (fun r2 _ hp2 => ?_)
  refine j_istore B (L' := [(6, .int r2), (5, .int (nI (sp_askD σ (xs (i + 1).toNatClampNeg) 2).1)), (4, .int i), (3, .ref o), (2, .ref (md 0)), (1, .ref (ad 0)), (0, .ref b)]) dL_law_1220 (by decide) rfl ?_
  refine j_aload_n B dL_law_1222 4 rfl rfl ?_
  refine j_cVi B (S := Unit) 0 [] (WdC' := fun _ => pgM D cI cZ (fun z => A z ∧ z ≠ o ∧ ∀ k, k < 13 + n → z ≠ ad k) (sp_askD σ (xs (i + 1).toNatClampNeg) 2).2.2 ρ (nI (sp_askD σ (xs (i + 1).toNatClampNeg) 2).1) md) (fun _ => pgWL D cD cC cI cZ cL A ((sp_askD σ (xs (i + 1).toNatClampNeg) 2).2.2) n ad o (if (sp_askD σ (xs (i + 1).toNatClampNeg) 2).1 = 0 then vp_updL f 0 (sp_askD σ (xs (i + 1).toNatClampNeg) 2).2.1.toInt64 else f) ((sp_askD σ (xs (i + 1).toNatClampNeg) 2).2.2) ρ (nI (sp_askD σ (xs (i + 1).toNatClampNeg) 2).1) md) (c_X3_thrown l D cD cC cI cZ cL (fun z => A z ∧ z ≠ o ∧ ∀ k, k < 13 + n → z ≠ ad k) ((sp_askD σ (xs (i + 1).toNatClampNeg) 2).2.2) ρ (nI (sp_askD σ (xs (i + 1).toNatClampNeg) 2).1) md) rfl (fun H h => h.2.m) q_565 q_566 q_567 q_3 q_568 hdX3_thrown rfl ⟨Nat.le_of_ble_eq_true rfl, Nat.le_of_ble_eq_true rfl⟩ (Nat.le_of_ble_eq_true rfl) dL_law_1223 rfl hcl (fun _ h => h.1) (fun _ h => h.new2) (fun _ h => h.2) (fun H H1 u h h1 hz hk => h.rf h1 hk) (fun r3 _ hp3 => ?_)
  subst hp3
  refine j_iload B dL_law_1226 1 rfl ?_
  refine j_icmp_eq B 1233 dL_law_1228 (by decide) (fun _ => ?_) (fun h => absurd rfl h)
  refine j_iload B dL_law_1233 1 rfl ?_
  refine j_if_ne B 1250 dL_law_1235 (by decide) (fun _ => ?_) (fun h => ?_)
  · refine j_goto B 1760 dL_law_1250 (by decide) ?_
    refine j_locals (L' := [(4, .int i), (3, .ref o), (2, .ref (md 0)), (1, .ref (ad 0)), (0, .ref b)]) [2, 3, 4, 5, 6] rfl ?_
    exact kk _ _ _ _ _ _ kp.1 kp.2 rfl
  · have h0 := (pg_kx0 (by have := hsc.1; omega)).1 h
    refine j_aload_n B dL_law_1238 3 rfl rfl ?_
    refine j_iconst B (v := 0) dL_law_1239 (by decide) ?_
    refine j_lald B (fun H h => h.1.2.1) 4 rfl pg_in01 dL_law_1240 ?_
    refine j_iload B dL_law_1241 0 rfl ?_
    refine j_i2l B dL_law_1243 ?_
    refine j_lcmp B dL_law_1244 ?_
    refine j_if_eq B 1250 dL_law_1245 (by decide) (fun _ => ?_) (fun h9 => absurd (pg_cmp9 h0 (congrArg Int32.toInt64 (hp2 h0).symm)) h9)
    refine j_goto B 1760 dL_law_1250 (by decide) ?_
    refine j_locals (L' := [(4, .int i), (3, .ref o), (2, .ref (md 0)), (1, .ref (ad 0)), (0, .ref b)]) [2, 3, 4, 5, 6] rfl ?_
    exact kk _ _ _ _ _ _ kp.1 kp.2 rfl
set_option maxHeartbeats 4000000 in
set_option maxRecDepth 100000 in
/-- case 17: crateOf -/
theorem law_crateOf {p : Program} {l : Launch} {e : Env} {s : State} {m : MethodId} {args : Array Value} {below : List Frame} {meth : Method} {c : Code} {D : va_G} {cD cC cI cZ cL : ClassId} {A : Nat → Prop} {Q : State → Prop} (hl : l.stackTraces = false) (B : pgB p m c s args meth RL cL_law 7 D (pgTys cD cC cI cZ cL) A) {b L0 : Nat} {xs : Nat → Int32} (hX : va_X b L0 xs s s.heap) (hbl : b < s.heap.size) (hbA : ¬ A b) {i : Int32} (g1 : vp_in (i + 1) L0) (g2 : vp_in (i + 2) L0) (g3 : vp_in (i + 3) L0) {σ : pgSt} {n : Nat} {ad : Nat → Nat} {o : Nat} {f : Nat → Int64} {ρ : Nat → Int32} {th : Int32} {md : Nat → Nat} (hI : pgI n σ) (hR : pgRho σ ρ) {cells slots : Nat} (hcl : cells + 5 ≤ room_1.cells ∧ slots + 30 ≤ room_1.slots)
    (kk : ∀ (σ2 : pgSt) (n2 : Nat) (ad2 : Nat → Nat) (f2 : Nat → Int64) (ρ2 : Nat → Int32) (th2 : Int32), pgI n2 σ2 → pgRho σ2 ρ2 → ad2 0 = ad 0 → pgJ p l e room_1 s m args below meth c 7 A (pgWL D cD cC cI cZ cL A σ2 n2 ad2 o f2 σ2 ρ2 th2 md) (cells + 5) (slots + 30) Q 1760 [(4, .int i), (3, .ref o), (2, .ref (md 0)), (1, .ref (ad 0)), (0, .ref b)] []) : pgJ p l e room_1 s m args below meth c 7 A (pgWL D cD cC cI cZ cL A σ n ad o f σ ρ th md) cells slots Q 1253 [(4, .int i), (3, .ref o), (2, .ref (md 0)), (1, .ref (ad 0)), (0, .ref b)] [] := by
  have hsc := @sc_askD σ (xs (i + 1).toNatClampNeg) 3
  have kp : pgI n (sp_askD σ (xs (i + 1).toNatClampNeg) 3).2.2 ∧ pgRho (sp_askD σ (xs (i + 1).toNatClampNeg) 3).2.2 ρ := by rw [ss_askD]; exact ⟨hI, hR⟩
  have hW := c_L_crateOf l hl D cD cC cI cZ cL (fun z => A z ∧ ∀ k, k < 14 → z ≠ md k) σ n ad o f hI (xs (i + 1).toNatClampNeg)
  refine j_aload_n B dL_law_1253 3 rfl rfl ?_
  refine j_aload_n B dL_law_1254 4 rfl rfl ?_
  refine j_iload B dL_law_1255 0 rfl ?_
  refine j_iconst B (v := 1) dL_law_1257 (by decide) ?_
  refine j_iadd B dL_law_1258 ?_
  refine j_sld B hX hbl hbA g1 dL_law_1259 ?_
  refine j_aload_n B dL_law_1260 1 rfl rfl ?_
  refine j_cWi B (S := Unit) 3 [.ref (ad 0), .int (xs (i + 1).toNatClampNeg), .ref o] (WdC' := fun _ => pgWO D cD cC cL (fun z => A z ∧ ∀ k, k < 14 → z ≠ md k) (sp_askD σ (xs (i + 1).toNatClampNeg) 3).2.2 n ad o (if (sp_askD σ (xs (i + 1).toNatClampNeg) 3).1 = 0 then vp_updL f 0 (sp_askD σ (xs (i + 1).toNatClampNeg) 3).2.1.toInt64 else f)) (fun _ => pgWL D cD cC cI cZ cL A ((sp_askD σ (xs (i + 1).toNatClampNeg) 3).2.2) n ad o (if (sp_askD σ (xs (i + 1).toNatClampNeg) 3).1 = 0 then vp_updL f 0 (sp_askD σ (xs (i + 1).toNatClampNeg) 3).2.1.toInt64 else f) σ ρ th md) hW q_442 q_443 q_0 q_444 hdL_crateOf rfl ⟨Nat.le_of_ble_eq_true rfl, Nat.le_of_ble_eq_true rfl⟩ (Nat.le_of_ble_eq_true rfl) dL_law_1261 rfl ⟨Nat.le_trans (Nat.add_le_add_left (Nat.le_of_ble_eq_true rfl) _) hcl.1, Nat.le_trans (Nat.add_le_add_left (Nat.le_of_ble_eq_true rfl) _) hcl.2⟩ (fun _ h => h.1) (fun _ h => h.new1) (fun _ h => h.1) (fun H H1 u h h1 hz hk => h.cls h1 hk) (fun r _ hp1 => ?_)
  subst hp1
  refine j_widen (k := cells + 5) (n := slots + 30) (Nat.add_le_add_left (Nat.le_of_ble_eq_true rfl) _) (Nat.add_le_add_left (Nat.le_of_ble_eq_true rfl) _) ?_
  refine j_istore B (L' := [(5, .int (nI (sp_askD σ (xs (i + 1).toNatClampNeg) 3).1)), (4, .int i), (3, .ref o), (2, .ref (md 0)), (1, .ref (ad 0)), (0, .ref b)]) dL_law_1264 (by decide) rfl ?_
  refine j_aload_n B dL_law_1266 3 rfl rfl ?_
  refine j_aload_n B dL_law_1267 5 rfl rfl ?_
  refine j_iload B dL_law_1268 1 rfl ?_
  refine j_iconst B (v := 1) dL_law_1270 (by decide) ?_
  refine j_iadd B dL_law_1271 ?_
  refine j_sld B hX hbl hbA g1 dL_law_1272 ?_
  refine j_cVi B (S := Unit) 1 [.int (xs (i + 1).toNatClampNeg)] (WdC' := fun _ => pgM D cI cZ (fun z => A z ∧ z ≠ o ∧ ∀ k, k < 13 + n → z ≠ ad k) (sp_askD σ (xs (i + 1).toNatClampNeg) 3).2.2 ρ (nI (sp_askD σ (xs (i + 1).toNatClampNeg) 3).1) md) (fun _ => pgWL D cD cC cI cZ cL A ((sp_askD σ (xs (i + 1).toNatClampNeg) 3).2.2) n ad o (if (sp_askD σ (xs (i + 1).toNatClampNeg) 3).1 = 0 then vp_updL f 0 (sp_askD σ (xs (i + 1).toNatClampNeg) 3).2.1.toInt64 else f) ((sp_askD σ (xs (i + 1).toNatClampNeg) 3).2.2) ρ (nI (sp_askD σ (xs (i + 1).toNatClampNeg) 3).1) md) (c_X3_crateOf l D cD cC cI cZ cL (fun z => A z ∧ z ≠ o ∧ ∀ k, k < 13 + n → z ≠ ad k) σ ρ th md n hI (xs (i + 1).toNatClampNeg)) rfl (fun H h => h.2.m) q_674 q_675 q_676 q_3 q_677 hdX3_crateOf rfl ⟨Nat.le_of_ble_eq_true rfl, Nat.le_of_ble_eq_true rfl⟩ (Nat.le_of_ble_eq_true rfl) dL_law_1273 rfl hcl (fun _ h => h.1) (fun _ h => h.new2) (fun _ h => h.2) (fun H H1 u h h1 hz hk => h.rf h1 hk) (fun r2 _ hp2 => ?_)
  refine j_istore B (L' := [(6, .int r2), (5, .int (nI (sp_askD σ (xs (i + 1).toNatClampNeg) 3).1)), (4, .int i), (3, .ref o), (2, .ref (md 0)), (1, .ref (ad 0)), (0, .ref b)]) dL_law_1276 (by decide) rfl ?_
  refine j_aload_n B dL_law_1278 4 rfl rfl ?_
  refine j_cVi B (S := Unit) 0 [] (WdC' := fun _ => pgM D cI cZ (fun z => A z ∧ z ≠ o ∧ ∀ k, k < 13 + n → z ≠ ad k) (sp_askD σ (xs (i + 1).toNatClampNeg) 3).2.2 ρ (nI (sp_askD σ (xs (i + 1).toNatClampNeg) 3).1) md) (fun _ => pgWL D cD cC cI cZ cL A ((sp_askD σ (xs (i + 1).toNatClampNeg) 3).2.2) n ad o (if (sp_askD σ (xs (i + 1).toNatClampNeg) 3).1 = 0 then vp_updL f 0 (sp_askD σ (xs (i + 1).toNatClampNeg) 3).2.1.toInt64 else f) ((sp_askD σ (xs (i + 1).toNatClampNeg) 3).2.2) ρ (nI (sp_askD σ (xs (i + 1).toNatClampNeg) 3).1) md) (c_X3_thrown l D cD cC cI cZ cL (fun z => A z ∧ z ≠ o ∧ ∀ k, k < 13 + n → z ≠ ad k) ((sp_askD σ (xs (i + 1).toNatClampNeg) 3).2.2) ρ (nI (sp_askD σ (xs (i + 1).toNatClampNeg) 3).1) md) rfl (fun H h => h.2.m) q_565 q_566 q_567 q_3 q_568 hdX3_thrown rfl ⟨Nat.le_of_ble_eq_true rfl, Nat.le_of_ble_eq_true rfl⟩ (Nat.le_of_ble_eq_true rfl) dL_law_1279 rfl hcl (fun _ h => h.1) (fun _ h => h.new2) (fun _ h => h.2) (fun H H1 u h h1 hz hk => h.rf h1 hk) (fun r3 _ hp3 => ?_)
  subst hp3
  refine j_iload B dL_law_1282 1 rfl ?_
  refine j_icmp_eq B 1289 dL_law_1284 (by decide) (fun _ => ?_) (fun h => absurd rfl h)
  refine j_iload B dL_law_1289 1 rfl ?_
  refine j_if_ne B 1306 dL_law_1291 (by decide) (fun _ => ?_) (fun h => ?_)
  · refine j_goto B 1760 dL_law_1306 (by decide) ?_
    refine j_locals (L' := [(4, .int i), (3, .ref o), (2, .ref (md 0)), (1, .ref (ad 0)), (0, .ref b)]) [2, 3, 4, 5, 6] rfl ?_
    exact kk _ _ _ _ _ _ kp.1 kp.2 rfl
  · have h0 := (pg_kx0 (by have := hsc.1; omega)).1 h
    refine j_aload_n B dL_law_1294 3 rfl rfl ?_
    refine j_iconst B (v := 0) dL_law_1295 (by decide) ?_
    refine j_lald B (fun H h => h.1.2.1) 4 rfl pg_in01 dL_law_1296 ?_
    refine j_iload B dL_law_1297 0 rfl ?_
    refine j_i2l B dL_law_1299 ?_
    refine j_lcmp B dL_law_1300 ?_
    refine j_if_eq B 1306 dL_law_1301 (by decide) (fun _ => ?_) (fun h9 => absurd (pg_cmp9 h0 (congrArg Int32.toInt64 (hp2 h0).symm)) h9)
    refine j_goto B 1760 dL_law_1306 (by decide) ?_
    refine j_locals (L' := [(4, .int i), (3, .ref o), (2, .ref (md 0)), (1, .ref (ad 0)), (0, .ref b)]) [2, 3, 4, 5, 6] rfl ?_
    exact kk _ _ _ _ _ _ kp.1 kp.2 rfl
set_option maxHeartbeats 4000000 in
set_option maxRecDepth 100000 in
/-- case 18: stateOf -/
theorem law_stateOf {p : Program} {l : Launch} {e : Env} {s : State} {m : MethodId} {args : Array Value} {below : List Frame} {meth : Method} {c : Code} {D : va_G} {cD cC cI cZ cL : ClassId} {A : Nat → Prop} {Q : State → Prop} (hl : l.stackTraces = false) (B : pgB p m c s args meth RL cL_law 7 D (pgTys cD cC cI cZ cL) A) {b L0 : Nat} {xs : Nat → Int32} (hX : va_X b L0 xs s s.heap) (hbl : b < s.heap.size) (hbA : ¬ A b) {i : Int32} (g1 : vp_in (i + 1) L0) (g2 : vp_in (i + 2) L0) (g3 : vp_in (i + 3) L0) {σ : pgSt} {n : Nat} {ad : Nat → Nat} {o : Nat} {f : Nat → Int64} {ρ : Nat → Int32} {th : Int32} {md : Nat → Nat} (hI : pgI n σ) (hR : pgRho σ ρ) {cells slots : Nat} (hcl : cells + 5 ≤ room_1.cells ∧ slots + 30 ≤ room_1.slots)
    (kk : ∀ (σ2 : pgSt) (n2 : Nat) (ad2 : Nat → Nat) (f2 : Nat → Int64) (ρ2 : Nat → Int32) (th2 : Int32), pgI n2 σ2 → pgRho σ2 ρ2 → ad2 0 = ad 0 → pgJ p l e room_1 s m args below meth c 7 A (pgWL D cD cC cI cZ cL A σ2 n2 ad2 o f2 σ2 ρ2 th2 md) (cells + 5) (slots + 30) Q 1760 [(4, .int i), (3, .ref o), (2, .ref (md 0)), (1, .ref (ad 0)), (0, .ref b)] []) : pgJ p l e room_1 s m args below meth c 7 A (pgWL D cD cC cI cZ cL A σ n ad o f σ ρ th md) cells slots Q 1309 [(4, .int i), (3, .ref o), (2, .ref (md 0)), (1, .ref (ad 0)), (0, .ref b)] [] := by
  have hsc := @sc_askD σ (xs (i + 1).toNatClampNeg) 4
  have kp : pgI n (sp_askD σ (xs (i + 1).toNatClampNeg) 4).2.2 ∧ pgRho (sp_askD σ (xs (i + 1).toNatClampNeg) 4).2.2 ρ := by rw [ss_askD]; exact ⟨hI, hR⟩
  have hW := c_L_stateOf l hl D cD cC cI cZ cL (fun z => A z ∧ ∀ k, k < 14 → z ≠ md k) σ n ad o f hI (xs (i + 1).toNatClampNeg)
  refine j_aload_n B dL_law_1309 3 rfl rfl ?_
  refine j_aload_n B dL_law_1310 4 rfl rfl ?_
  refine j_iload B dL_law_1311 0 rfl ?_
  refine j_iconst B (v := 1) dL_law_1313 (by decide) ?_
  refine j_iadd B dL_law_1314 ?_
  refine j_sld B hX hbl hbA g1 dL_law_1315 ?_
  refine j_aload_n B dL_law_1316 1 rfl rfl ?_
  refine j_cWi B (S := Unit) 3 [.ref (ad 0), .int (xs (i + 1).toNatClampNeg), .ref o] (WdC' := fun _ => pgWO D cD cC cL (fun z => A z ∧ ∀ k, k < 14 → z ≠ md k) (sp_askD σ (xs (i + 1).toNatClampNeg) 4).2.2 n ad o (if (sp_askD σ (xs (i + 1).toNatClampNeg) 4).1 = 0 then vp_updL f 0 (sp_askD σ (xs (i + 1).toNatClampNeg) 4).2.1.toInt64 else f)) (fun _ => pgWL D cD cC cI cZ cL A ((sp_askD σ (xs (i + 1).toNatClampNeg) 4).2.2) n ad o (if (sp_askD σ (xs (i + 1).toNatClampNeg) 4).1 = 0 then vp_updL f 0 (sp_askD σ (xs (i + 1).toNatClampNeg) 4).2.1.toInt64 else f) σ ρ th md) hW q_449 q_450 q_0 q_451 hdL_stateOf rfl ⟨Nat.le_of_ble_eq_true rfl, Nat.le_of_ble_eq_true rfl⟩ (Nat.le_of_ble_eq_true rfl) dL_law_1317 rfl ⟨Nat.le_trans (Nat.add_le_add_left (Nat.le_of_ble_eq_true rfl) _) hcl.1, Nat.le_trans (Nat.add_le_add_left (Nat.le_of_ble_eq_true rfl) _) hcl.2⟩ (fun _ h => h.1) (fun _ h => h.new1) (fun _ h => h.1) (fun H H1 u h h1 hz hk => h.cls h1 hk) (fun r _ hp1 => ?_)
  subst hp1
  refine j_widen (k := cells + 5) (n := slots + 30) (Nat.add_le_add_left (Nat.le_of_ble_eq_true rfl) _) (Nat.add_le_add_left (Nat.le_of_ble_eq_true rfl) _) ?_
  refine j_istore B (L' := [(5, .int (nI (sp_askD σ (xs (i + 1).toNatClampNeg) 4).1)), (4, .int i), (3, .ref o), (2, .ref (md 0)), (1, .ref (ad 0)), (0, .ref b)]) dL_law_1320 (by decide) rfl ?_
  refine j_aload_n B dL_law_1322 3 rfl rfl ?_
  refine j_aload_n B dL_law_1323 5 rfl rfl ?_
  refine j_iload B dL_law_1324 1 rfl ?_
  refine j_iconst B (v := 1) dL_law_1326 (by decide) ?_
  refine j_iadd B dL_law_1327 ?_
  refine j_sld B hX hbl hbA g1 dL_law_1328 ?_
  refine j_cVi B (S := Unit) 1 [.int (xs (i + 1).toNatClampNeg)] (WdC' := fun _ => pgM D cI cZ (fun z => A z ∧ z ≠ o ∧ ∀ k, k < 13 + n → z ≠ ad k) (sp_askD σ (xs (i + 1).toNatClampNeg) 4).2.2 ρ (nI (sp_askD σ (xs (i + 1).toNatClampNeg) 4).1) md) (fun _ => pgWL D cD cC cI cZ cL A ((sp_askD σ (xs (i + 1).toNatClampNeg) 4).2.2) n ad o (if (sp_askD σ (xs (i + 1).toNatClampNeg) 4).1 = 0 then vp_updL f 0 (sp_askD σ (xs (i + 1).toNatClampNeg) 4).2.1.toInt64 else f) ((sp_askD σ (xs (i + 1).toNatClampNeg) 4).2.2) ρ (nI (sp_askD σ (xs (i + 1).toNatClampNeg) 4).1) md) (c_X3_stateOf l D cD cC cI cZ cL (fun z => A z ∧ z ≠ o ∧ ∀ k, k < 13 + n → z ≠ ad k) σ ρ th md n hI (xs (i + 1).toNatClampNeg)) rfl (fun H h => h.2.m) q_678 q_679 q_680 q_3 q_681 hdX3_stateOf rfl ⟨Nat.le_of_ble_eq_true rfl, Nat.le_of_ble_eq_true rfl⟩ (Nat.le_of_ble_eq_true rfl) dL_law_1329 rfl hcl (fun _ h => h.1) (fun _ h => h.new2) (fun _ h => h.2) (fun H H1 u h h1 hz hk => h.rf h1 hk) (fun r2 _ hp2 => ?_)
  refine j_istore B (L' := [(6, .int r2), (5, .int (nI (sp_askD σ (xs (i + 1).toNatClampNeg) 4).1)), (4, .int i), (3, .ref o), (2, .ref (md 0)), (1, .ref (ad 0)), (0, .ref b)]) dL_law_1332 (by decide) rfl ?_
  refine j_aload_n B dL_law_1334 4 rfl rfl ?_
  refine j_cVi B (S := Unit) 0 [] (WdC' := fun _ => pgM D cI cZ (fun z => A z ∧ z ≠ o ∧ ∀ k, k < 13 + n → z ≠ ad k) (sp_askD σ (xs (i + 1).toNatClampNeg) 4).2.2 ρ (nI (sp_askD σ (xs (i + 1).toNatClampNeg) 4).1) md) (fun _ => pgWL D cD cC cI cZ cL A ((sp_askD σ (xs (i + 1).toNatClampNeg) 4).2.2) n ad o (if (sp_askD σ (xs (i + 1).toNatClampNeg) 4).1 = 0 then vp_updL f 0 (sp_askD σ (xs (i + 1).toNatClampNeg) 4).2.1.toInt64 else f) ((sp_askD σ (xs (i + 1).toNatClampNeg) 4).2.2) ρ (nI (sp_askD σ (xs (i + 1).toNatClampNeg) 4).1) md) (c_X3_thrown l D cD cC cI cZ cL (fun z => A z ∧ z ≠ o ∧ ∀ k, k < 13 + n → z ≠ ad k) ((sp_askD σ (xs (i + 1).toNatClampNeg) 4).2.2) ρ (nI (sp_askD σ (xs (i + 1).toNatClampNeg) 4).1) md) rfl (fun H h => h.2.m) q_565 q_566 q_567 q_3 q_568 hdX3_thrown rfl ⟨Nat.le_of_ble_eq_true rfl, Nat.le_of_ble_eq_true rfl⟩ (Nat.le_of_ble_eq_true rfl) dL_law_1335 rfl hcl (fun _ h => h.1) (fun _ h => h.new2) (fun _ h => h.2) (fun H H1 u h h1 hz hk => h.rf h1 hk) (fun r3 _ hp3 => ?_)
  subst hp3
  refine j_iload B dL_law_1338 1 rfl ?_
  refine j_icmp_eq B 1345 dL_law_1340 (by decide) (fun _ => ?_) (fun h => absurd rfl h)
  refine j_iload B dL_law_1345 1 rfl ?_
  refine j_if_ne B 1362 dL_law_1347 (by decide) (fun _ => ?_) (fun h => ?_)
  · refine j_goto B 1760 dL_law_1362 (by decide) ?_
    refine j_locals (L' := [(4, .int i), (3, .ref o), (2, .ref (md 0)), (1, .ref (ad 0)), (0, .ref b)]) [2, 3, 4, 5, 6] rfl ?_
    exact kk _ _ _ _ _ _ kp.1 kp.2 rfl
  · have h0 := (pg_kx0 (by have := hsc.1; omega)).1 h
    refine j_aload_n B dL_law_1350 3 rfl rfl ?_
    refine j_iconst B (v := 0) dL_law_1351 (by decide) ?_
    refine j_lald B (fun H h => h.1.2.1) 4 rfl pg_in01 dL_law_1352 ?_
    refine j_iload B dL_law_1353 0 rfl ?_
    refine j_i2l B dL_law_1355 ?_
    refine j_lcmp B dL_law_1356 ?_
    refine j_if_eq B 1362 dL_law_1357 (by decide) (fun _ => ?_) (fun h9 => absurd (pg_cmp9 h0 (congrArg Int32.toInt64 (hp2 h0).symm)) h9)
    refine j_goto B 1760 dL_law_1362 (by decide) ?_
    refine j_locals (L' := [(4, .int i), (3, .ref o), (2, .ref (md 0)), (1, .ref (ad 0)), (0, .ref b)]) [2, 3, 4, 5, 6] rfl ?_
    exact kk _ _ _ _ _ _ kp.1 kp.2 rfl
set_option maxHeartbeats 4000000 in
set_option maxRecDepth 100000 in
/-- case 19: isDone -/
theorem law_isDone {p : Program} {l : Launch} {e : Env} {s : State} {m : MethodId} {args : Array Value} {below : List Frame} {meth : Method} {c : Code} {D : va_G} {cD cC cI cZ cL : ClassId} {A : Nat → Prop} {Q : State → Prop} (hl : l.stackTraces = false) (B : pgB p m c s args meth RL cL_law 7 D (pgTys cD cC cI cZ cL) A) {b L0 : Nat} {xs : Nat → Int32} (hX : va_X b L0 xs s s.heap) (hbl : b < s.heap.size) (hbA : ¬ A b) {i : Int32} (g1 : vp_in (i + 1) L0) (g2 : vp_in (i + 2) L0) (g3 : vp_in (i + 3) L0) {σ : pgSt} {n : Nat} {ad : Nat → Nat} {o : Nat} {f : Nat → Int64} {ρ : Nat → Int32} {th : Int32} {md : Nat → Nat} (hI : pgI n σ) (hR : pgRho σ ρ) {cells slots : Nat} (hcl : cells + 5 ≤ room_1.cells ∧ slots + 30 ≤ room_1.slots)
    (kk : ∀ (σ2 : pgSt) (n2 : Nat) (ad2 : Nat → Nat) (f2 : Nat → Int64) (ρ2 : Nat → Int32) (th2 : Int32), pgI n2 σ2 → pgRho σ2 ρ2 → ad2 0 = ad 0 → pgJ p l e room_1 s m args below meth c 7 A (pgWL D cD cC cI cZ cL A σ2 n2 ad2 o f2 σ2 ρ2 th2 md) (cells + 5) (slots + 30) Q 1760 [(4, .int i), (3, .ref o), (2, .ref (md 0)), (1, .ref (ad 0)), (0, .ref b)] []) : pgJ p l e room_1 s m args below meth c 7 A (pgWL D cD cC cI cZ cL A σ n ad o f σ ρ th md) cells slots Q 1365 [(4, .int i), (3, .ref o), (2, .ref (md 0)), (1, .ref (ad 0)), (0, .ref b)] [] := by
  have hsc := @sc_isDone σ (xs (i + 1).toNatClampNeg)
  have kp : pgI n (sp_isDone σ (xs (i + 1).toNatClampNeg)).2.2 ∧ pgRho (sp_isDone σ (xs (i + 1).toNatClampNeg)).2.2 ρ := by rw [ss_isDone]; exact ⟨hI, hR⟩
  have hW := c_L_isDone l hl D cD cC cI cZ cL (fun z => A z ∧ ∀ k, k < 14 → z ≠ md k) σ n ad o f hI (xs (i + 1).toNatClampNeg)
  refine j_aload_n B dL_law_1365 3 rfl rfl ?_
  refine j_aload_n B dL_law_1366 4 rfl rfl ?_
  refine j_iload B dL_law_1367 0 rfl ?_
  refine j_iconst B (v := 1) dL_law_1369 (by decide) ?_
  refine j_iadd B dL_law_1370 ?_
  refine j_sld B hX hbl hbA g1 dL_law_1371 ?_
  refine j_aload_n B dL_law_1372 1 rfl rfl ?_
  refine j_cWi B (S := Unit) 3 [.ref (ad 0), .int (xs (i + 1).toNatClampNeg), .ref o] (WdC' := fun _ => pgWO D cD cC cL (fun z => A z ∧ ∀ k, k < 14 → z ≠ md k) (sp_isDone σ (xs (i + 1).toNatClampNeg)).2.2 n ad o (if (sp_isDone σ (xs (i + 1).toNatClampNeg)).1 = 0 then vp_updL f 0 (sp_isDone σ (xs (i + 1).toNatClampNeg)).2.1.toInt64 else f)) (fun _ => pgWL D cD cC cI cZ cL A ((sp_isDone σ (xs (i + 1).toNatClampNeg)).2.2) n ad o (if (sp_isDone σ (xs (i + 1).toNatClampNeg)).1 = 0 then vp_updL f 0 (sp_isDone σ (xs (i + 1).toNatClampNeg)).2.1.toInt64 else f) σ ρ th md) hW q_456 q_457 q_0 q_458 hdL_isDone rfl ⟨Nat.le_of_ble_eq_true rfl, Nat.le_of_ble_eq_true rfl⟩ (Nat.le_of_ble_eq_true rfl) dL_law_1373 rfl ⟨Nat.le_trans (Nat.add_le_add_left (Nat.le_of_ble_eq_true rfl) _) hcl.1, Nat.le_trans (Nat.add_le_add_left (Nat.le_of_ble_eq_true rfl) _) hcl.2⟩ (fun _ h => h.1) (fun _ h => h.new1) (fun _ h => h.1) (fun H H1 u h h1 hz hk => h.cls h1 hk) (fun r _ hp1 => ?_)
  subst hp1
  refine j_widen (k := cells + 5) (n := slots + 30) (Nat.add_le_add_left (Nat.le_of_ble_eq_true rfl) _) (Nat.add_le_add_left (Nat.le_of_ble_eq_true rfl) _) ?_
  refine j_istore B (L' := [(5, .int (nI (sp_isDone σ (xs (i + 1).toNatClampNeg)).1)), (4, .int i), (3, .ref o), (2, .ref (md 0)), (1, .ref (ad 0)), (0, .ref b)]) dL_law_1376 (by decide) rfl ?_
  refine j_aload_n B dL_law_1378 3 rfl rfl ?_
  refine j_aload_n B dL_law_1379 5 rfl rfl ?_
  refine j_iload B dL_law_1380 1 rfl ?_
  refine j_iconst B (v := 1) dL_law_1382 (by decide) ?_
  refine j_iadd B dL_law_1383 ?_
  refine j_sld B hX hbl hbA g1 dL_law_1384 ?_
  refine j_cVi B (S := Unit) 1 [.int (xs (i + 1).toNatClampNeg)] (WdC' := fun _ => pgM D cI cZ (fun z => A z ∧ z ≠ o ∧ ∀ k, k < 13 + n → z ≠ ad k) (sp_isDone σ (xs (i + 1).toNatClampNeg)).2.2 ρ (nI (sp_isDone σ (xs (i + 1).toNatClampNeg)).1) md) (fun _ => pgWL D cD cC cI cZ cL A ((sp_isDone σ (xs (i + 1).toNatClampNeg)).2.2) n ad o (if (sp_isDone σ (xs (i + 1).toNatClampNeg)).1 = 0 then vp_updL f 0 (sp_isDone σ (xs (i + 1).toNatClampNeg)).2.1.toInt64 else f) ((sp_isDone σ (xs (i + 1).toNatClampNeg)).2.2) ρ (nI (sp_isDone σ (xs (i + 1).toNatClampNeg)).1) md) (c_X3_isDone l D cD cC cI cZ cL (fun z => A z ∧ z ≠ o ∧ ∀ k, k < 13 + n → z ≠ ad k) σ ρ th md n hI (xs (i + 1).toNatClampNeg)) rfl (fun H h => h.2.m) q_682 q_683 q_684 q_3 q_685 hdX3_isDone rfl ⟨Nat.le_of_ble_eq_true rfl, Nat.le_of_ble_eq_true rfl⟩ (Nat.le_of_ble_eq_true rfl) dL_law_1385 rfl hcl (fun _ h => h.1) (fun _ h => h.new2) (fun _ h => h.2) (fun H H1 u h h1 hz hk => h.rf h1 hk) (fun r2 _ hp2 => ?_)
  refine j_istore B (L' := [(6, .int r2), (5, .int (nI (sp_isDone σ (xs (i + 1).toNatClampNeg)).1)), (4, .int i), (3, .ref o), (2, .ref (md 0)), (1, .ref (ad 0)), (0, .ref b)]) dL_law_1388 (by decide) rfl ?_
  refine j_aload_n B dL_law_1390 4 rfl rfl ?_
  refine j_cVi B (S := Unit) 0 [] (WdC' := fun _ => pgM D cI cZ (fun z => A z ∧ z ≠ o ∧ ∀ k, k < 13 + n → z ≠ ad k) (sp_isDone σ (xs (i + 1).toNatClampNeg)).2.2 ρ (nI (sp_isDone σ (xs (i + 1).toNatClampNeg)).1) md) (fun _ => pgWL D cD cC cI cZ cL A ((sp_isDone σ (xs (i + 1).toNatClampNeg)).2.2) n ad o (if (sp_isDone σ (xs (i + 1).toNatClampNeg)).1 = 0 then vp_updL f 0 (sp_isDone σ (xs (i + 1).toNatClampNeg)).2.1.toInt64 else f) ((sp_isDone σ (xs (i + 1).toNatClampNeg)).2.2) ρ (nI (sp_isDone σ (xs (i + 1).toNatClampNeg)).1) md) (c_X3_thrown l D cD cC cI cZ cL (fun z => A z ∧ z ≠ o ∧ ∀ k, k < 13 + n → z ≠ ad k) ((sp_isDone σ (xs (i + 1).toNatClampNeg)).2.2) ρ (nI (sp_isDone σ (xs (i + 1).toNatClampNeg)).1) md) rfl (fun H h => h.2.m) q_565 q_566 q_567 q_3 q_568 hdX3_thrown rfl ⟨Nat.le_of_ble_eq_true rfl, Nat.le_of_ble_eq_true rfl⟩ (Nat.le_of_ble_eq_true rfl) dL_law_1391 rfl hcl (fun _ h => h.1) (fun _ h => h.new2) (fun _ h => h.2) (fun H H1 u h h1 hz hk => h.rf h1 hk) (fun r3 _ hp3 => ?_)
  subst hp3
  refine j_iload B dL_law_1394 1 rfl ?_
  refine j_icmp_eq B 1401 dL_law_1396 (by decide) (fun _ => ?_) (fun h => absurd rfl h)
  refine j_iload B dL_law_1401 1 rfl ?_
  refine j_if_ne B 1425 dL_law_1403 (by decide) (fun _ => ?_) (fun h => ?_)
  · refine j_goto B 1760 dL_law_1425 (by decide) ?_
    refine j_locals (L' := [(4, .int i), (3, .ref o), (2, .ref (md 0)), (1, .ref (ad 0)), (0, .ref b)]) [2, 3, 4, 5, 6] rfl ?_
    exact kk _ _ _ _ _ _ kp.1 kp.2 rfl
  · have h0 := (pg_kx0 (by have := hsc.1; omega)).1 h
    refine j_aload_n B dL_law_1406 3 rfl rfl ?_
    refine j_iconst B (v := 0) dL_law_1407 (by decide) ?_
    refine j_lald B (fun H h => h.1.2.1) 4 rfl pg_in01 dL_law_1408 ?_
    refine j_iload B dL_law_1409 0 rfl ?_
    refine j_if_eq B 1418 dL_law_1411 (by decide) (fun h3 => ?_) (fun h3 => ?_)
    · refine j_lconst B (v := 0) dL_law_1418 (by decide) ?_
      refine j_lcmp B dL_law_1419 ?_
      refine j_if_eq B 1425 dL_law_1420 (by decide) (fun _ => ?_) (fun h9 => absurd (pg_cmp9 h0 (by rw [← hp2 h0, h3] <;> rfl)) h9)
      refine j_goto B 1760 dL_law_1425 (by decide) ?_
      refine j_locals (L' := [(4, .int i), (3, .ref o), (2, .ref (md 0)), (1, .ref (ad 0)), (0, .ref b)]) [2, 3, 4, 5, 6] rfl ?_
      exact kk _ _ _ _ _ _ kp.1 kp.2 rfl
    · refine j_lconst B (v := 1) dL_law_1414 (by decide) ?_
      refine j_goto B 1419 dL_law_1415 (by decide) ?_
      refine j_lcmp B dL_law_1419 ?_
      refine j_if_eq B 1425 dL_law_1420 (by decide) (fun _ => ?_) (fun h9 => absurd (pg_cmp9 h0 ((sz_isDone (σ := σ) (d := (xs (i + 1).toNatClampNeg))).elim (fun z => absurd ((hp2 h0).trans z) h3) (fun z => by rw [z] <;> rfl))) h9)
      refine j_goto B 1760 dL_law_1425 (by decide) ?_
      refine j_locals (L' := [(4, .int i), (3, .ref o), (2, .ref (md 0)), (1, .ref (ad 0)), (0, .ref b)]) [2, 3, 4, 5, 6] rfl ?_
      exact kk _ _ _ _ _ _ kp.1 kp.2 rfl
set_option maxHeartbeats 4000000 in
set_option maxRecDepth 100000 in
/-- case 20: offeredTo -/
theorem law_offeredTo {p : Program} {l : Launch} {e : Env} {s : State} {m : MethodId} {args : Array Value} {below : List Frame} {meth : Method} {c : Code} {D : va_G} {cD cC cI cZ cL : ClassId} {A : Nat → Prop} {Q : State → Prop} (hl : l.stackTraces = false) (B : pgB p m c s args meth RL cL_law 7 D (pgTys cD cC cI cZ cL) A) {b L0 : Nat} {xs : Nat → Int32} (hX : va_X b L0 xs s s.heap) (hbl : b < s.heap.size) (hbA : ¬ A b) {i : Int32} (g1 : vp_in (i + 1) L0) (g2 : vp_in (i + 2) L0) (g3 : vp_in (i + 3) L0) {σ : pgSt} {n : Nat} {ad : Nat → Nat} {o : Nat} {f : Nat → Int64} {ρ : Nat → Int32} {th : Int32} {md : Nat → Nat} (hI : pgI n σ) (hR : pgRho σ ρ) {cells slots : Nat} (hcl : cells + 5 ≤ room_1.cells ∧ slots + 30 ≤ room_1.slots)
    (kk : ∀ (σ2 : pgSt) (n2 : Nat) (ad2 : Nat → Nat) (f2 : Nat → Int64) (ρ2 : Nat → Int32) (th2 : Int32), pgI n2 σ2 → pgRho σ2 ρ2 → ad2 0 = ad 0 → pgJ p l e room_1 s m args below meth c 7 A (pgWL D cD cC cI cZ cL A σ2 n2 ad2 o f2 σ2 ρ2 th2 md) (cells + 5) (slots + 30) Q 1760 [(4, .int i), (3, .ref o), (2, .ref (md 0)), (1, .ref (ad 0)), (0, .ref b)] []) : pgJ p l e room_1 s m args below meth c 7 A (pgWL D cD cC cI cZ cL A σ n ad o f σ ρ th md) cells slots Q 1428 [(4, .int i), (3, .ref o), (2, .ref (md 0)), (1, .ref (ad 0)), (0, .ref b)] [] := by
  have hsc := @sc_askD σ (xs (i + 1).toNatClampNeg) 6
  have kp : pgI n (sp_askD σ (xs (i + 1).toNatClampNeg) 6).2.2 ∧ pgRho (sp_askD σ (xs (i + 1).toNatClampNeg) 6).2.2 ρ := by rw [ss_askD]; exact ⟨hI, hR⟩
  have hW := c_L_offeredTo l hl D cD cC cI cZ cL (fun z => A z ∧ ∀ k, k < 14 → z ≠ md k) σ n ad o f hI (xs (i + 1).toNatClampNeg)
  refine j_aload_n B dL_law_1428 3 rfl rfl ?_
  refine j_aload_n B dL_law_1429 4 rfl rfl ?_
  refine j_iload B dL_law_1430 0 rfl ?_
  refine j_iconst B (v := 1) dL_law_1432 (by decide) ?_
  refine j_iadd B dL_law_1433 ?_
  refine j_sld B hX hbl hbA g1 dL_law_1434 ?_
  refine j_aload_n B dL_law_1435 1 rfl rfl ?_
  refine j_cWi B (S := Unit) 3 [.ref (ad 0), .int (xs (i + 1).toNatClampNeg), .ref o] (WdC' := fun _ => pgWO D cD cC cL (fun z => A z ∧ ∀ k, k < 14 → z ≠ md k) (sp_askD σ (xs (i + 1).toNatClampNeg) 6).2.2 n ad o (if (sp_askD σ (xs (i + 1).toNatClampNeg) 6).1 = 0 then vp_updL f 0 (sp_askD σ (xs (i + 1).toNatClampNeg) 6).2.1.toInt64 else f)) (fun _ => pgWL D cD cC cI cZ cL A ((sp_askD σ (xs (i + 1).toNatClampNeg) 6).2.2) n ad o (if (sp_askD σ (xs (i + 1).toNatClampNeg) 6).1 = 0 then vp_updL f 0 (sp_askD σ (xs (i + 1).toNatClampNeg) 6).2.1.toInt64 else f) σ ρ th md) hW q_464 q_465 q_0 q_466 hdL_offeredTo rfl ⟨Nat.le_of_ble_eq_true rfl, Nat.le_of_ble_eq_true rfl⟩ (Nat.le_of_ble_eq_true rfl) dL_law_1436 rfl ⟨Nat.le_trans (Nat.add_le_add_left (Nat.le_of_ble_eq_true rfl) _) hcl.1, Nat.le_trans (Nat.add_le_add_left (Nat.le_of_ble_eq_true rfl) _) hcl.2⟩ (fun _ h => h.1) (fun _ h => h.new1) (fun _ h => h.1) (fun H H1 u h h1 hz hk => h.cls h1 hk) (fun r _ hp1 => ?_)
  subst hp1
  refine j_widen (k := cells + 5) (n := slots + 30) (Nat.add_le_add_left (Nat.le_of_ble_eq_true rfl) _) (Nat.add_le_add_left (Nat.le_of_ble_eq_true rfl) _) ?_
  refine j_istore B (L' := [(5, .int (nI (sp_askD σ (xs (i + 1).toNatClampNeg) 6).1)), (4, .int i), (3, .ref o), (2, .ref (md 0)), (1, .ref (ad 0)), (0, .ref b)]) dL_law_1439 (by decide) rfl ?_
  refine j_aload_n B dL_law_1441 3 rfl rfl ?_
  refine j_aload_n B dL_law_1442 5 rfl rfl ?_
  refine j_iload B dL_law_1443 1 rfl ?_
  refine j_iconst B (v := 1) dL_law_1445 (by decide) ?_
  refine j_iadd B dL_law_1446 ?_
  refine j_sld B hX hbl hbA g1 dL_law_1447 ?_
  refine j_cVi B (S := Unit) 1 [.int (xs (i + 1).toNatClampNeg)] (WdC' := fun _ => pgM D cI cZ (fun z => A z ∧ z ≠ o ∧ ∀ k, k < 13 + n → z ≠ ad k) (sp_askD σ (xs (i + 1).toNatClampNeg) 6).2.2 ρ (nI (sp_askD σ (xs (i + 1).toNatClampNeg) 6).1) md) (fun _ => pgWL D cD cC cI cZ cL A ((sp_askD σ (xs (i + 1).toNatClampNeg) 6).2.2) n ad o (if (sp_askD σ (xs (i + 1).toNatClampNeg) 6).1 = 0 then vp_updL f 0 (sp_askD σ (xs (i + 1).toNatClampNeg) 6).2.1.toInt64 else f) ((sp_askD σ (xs (i + 1).toNatClampNeg) 6).2.2) ρ (nI (sp_askD σ (xs (i + 1).toNatClampNeg) 6).1) md) (c_X3_offeredTo l D cD cC cI cZ cL (fun z => A z ∧ z ≠ o ∧ ∀ k, k < 13 + n → z ≠ ad k) σ ρ th md n hI (xs (i + 1).toNatClampNeg)) rfl (fun H h => h.2.m) q_686 q_687 q_688 q_3 q_689 hdX3_offeredTo rfl ⟨Nat.le_of_ble_eq_true rfl, Nat.le_of_ble_eq_true rfl⟩ (Nat.le_of_ble_eq_true rfl) dL_law_1448 rfl hcl (fun _ h => h.1) (fun _ h => h.new2) (fun _ h => h.2) (fun H H1 u h h1 hz hk => h.rf h1 hk) (fun r2 _ hp2 => ?_)
  refine j_istore B (L' := [(6, .int r2), (5, .int (nI (sp_askD σ (xs (i + 1).toNatClampNeg) 6).1)), (4, .int i), (3, .ref o), (2, .ref (md 0)), (1, .ref (ad 0)), (0, .ref b)]) dL_law_1451 (by decide) rfl ?_
  refine j_aload_n B dL_law_1453 4 rfl rfl ?_
  refine j_cVi B (S := Unit) 0 [] (WdC' := fun _ => pgM D cI cZ (fun z => A z ∧ z ≠ o ∧ ∀ k, k < 13 + n → z ≠ ad k) (sp_askD σ (xs (i + 1).toNatClampNeg) 6).2.2 ρ (nI (sp_askD σ (xs (i + 1).toNatClampNeg) 6).1) md) (fun _ => pgWL D cD cC cI cZ cL A ((sp_askD σ (xs (i + 1).toNatClampNeg) 6).2.2) n ad o (if (sp_askD σ (xs (i + 1).toNatClampNeg) 6).1 = 0 then vp_updL f 0 (sp_askD σ (xs (i + 1).toNatClampNeg) 6).2.1.toInt64 else f) ((sp_askD σ (xs (i + 1).toNatClampNeg) 6).2.2) ρ (nI (sp_askD σ (xs (i + 1).toNatClampNeg) 6).1) md) (c_X3_thrown l D cD cC cI cZ cL (fun z => A z ∧ z ≠ o ∧ ∀ k, k < 13 + n → z ≠ ad k) ((sp_askD σ (xs (i + 1).toNatClampNeg) 6).2.2) ρ (nI (sp_askD σ (xs (i + 1).toNatClampNeg) 6).1) md) rfl (fun H h => h.2.m) q_565 q_566 q_567 q_3 q_568 hdX3_thrown rfl ⟨Nat.le_of_ble_eq_true rfl, Nat.le_of_ble_eq_true rfl⟩ (Nat.le_of_ble_eq_true rfl) dL_law_1454 rfl hcl (fun _ h => h.1) (fun _ h => h.new2) (fun _ h => h.2) (fun H H1 u h h1 hz hk => h.rf h1 hk) (fun r3 _ hp3 => ?_)
  subst hp3
  refine j_iload B dL_law_1457 1 rfl ?_
  refine j_icmp_eq B 1464 dL_law_1459 (by decide) (fun _ => ?_) (fun h => absurd rfl h)
  refine j_iload B dL_law_1464 1 rfl ?_
  refine j_if_ne B 1481 dL_law_1466 (by decide) (fun _ => ?_) (fun h => ?_)
  · refine j_goto B 1760 dL_law_1481 (by decide) ?_
    refine j_locals (L' := [(4, .int i), (3, .ref o), (2, .ref (md 0)), (1, .ref (ad 0)), (0, .ref b)]) [2, 3, 4, 5, 6] rfl ?_
    exact kk _ _ _ _ _ _ kp.1 kp.2 rfl
  · have h0 := (pg_kx0 (by have := hsc.1; omega)).1 h
    refine j_aload_n B dL_law_1469 3 rfl rfl ?_
    refine j_iconst B (v := 0) dL_law_1470 (by decide) ?_
    refine j_lald B (fun H h => h.1.2.1) 4 rfl pg_in01 dL_law_1471 ?_
    refine j_iload B dL_law_1472 0 rfl ?_
    refine j_i2l B dL_law_1474 ?_
    refine j_lcmp B dL_law_1475 ?_
    refine j_if_eq B 1481 dL_law_1476 (by decide) (fun _ => ?_) (fun h9 => absurd (pg_cmp9 h0 (congrArg Int32.toInt64 (hp2 h0).symm)) h9)
    refine j_goto B 1760 dL_law_1481 (by decide) ?_
    refine j_locals (L' := [(4, .int i), (3, .ref o), (2, .ref (md 0)), (1, .ref (ad 0)), (0, .ref b)]) [2, 3, 4, 5, 6] rfl ?_
    exact kk _ _ _ _ _ _ kp.1 kp.2 rfl
set_option maxHeartbeats 4000000 in
set_option maxRecDepth 100000 in
/-- case 21: certificateOf -/
theorem law_certificateOf {p : Program} {l : Launch} {e : Env} {s : State} {m : MethodId} {args : Array Value} {below : List Frame} {meth : Method} {c : Code} {D : va_G} {cD cC cI cZ cL : ClassId} {A : Nat → Prop} {Q : State → Prop} (hl : l.stackTraces = false) (B : pgB p m c s args meth RL cL_law 7 D (pgTys cD cC cI cZ cL) A) {b L0 : Nat} {xs : Nat → Int32} (hX : va_X b L0 xs s s.heap) (hbl : b < s.heap.size) (hbA : ¬ A b) {i : Int32} (g1 : vp_in (i + 1) L0) (g2 : vp_in (i + 2) L0) (g3 : vp_in (i + 3) L0) {σ : pgSt} {n : Nat} {ad : Nat → Nat} {o : Nat} {f : Nat → Int64} {ρ : Nat → Int32} {th : Int32} {md : Nat → Nat} (hI : pgI n σ) (hR : pgRho σ ρ) {cells slots : Nat} (hcl : cells + 5 ≤ room_1.cells ∧ slots + 30 ≤ room_1.slots)
    (kk : ∀ (σ2 : pgSt) (n2 : Nat) (ad2 : Nat → Nat) (f2 : Nat → Int64) (ρ2 : Nat → Int32) (th2 : Int32), pgI n2 σ2 → pgRho σ2 ρ2 → ad2 0 = ad 0 → pgJ p l e room_1 s m args below meth c 7 A (pgWL D cD cC cI cZ cL A σ2 n2 ad2 o f2 σ2 ρ2 th2 md) (cells + 5) (slots + 30) Q 1760 [(4, .int i), (3, .ref o), (2, .ref (md 0)), (1, .ref (ad 0)), (0, .ref b)] []) : pgJ p l e room_1 s m args below meth c 7 A (pgWL D cD cC cI cZ cL A σ n ad o f σ ρ th md) cells slots Q 1484 [(4, .int i), (3, .ref o), (2, .ref (md 0)), (1, .ref (ad 0)), (0, .ref b)] [] := by
  have hsc := @sc_askD σ (xs (i + 1).toNatClampNeg) 9
  have kp : pgI n (sp_askD σ (xs (i + 1).toNatClampNeg) 9).2.2 ∧ pgRho (sp_askD σ (xs (i + 1).toNatClampNeg) 9).2.2 ρ := by rw [ss_askD]; exact ⟨hI, hR⟩
  have hW := c_L_certificateOf l hl D cD cC cI cZ cL (fun z => A z ∧ ∀ k, k < 14 → z ≠ md k) σ n ad o f hI (xs (i + 1).toNatClampNeg)
  refine j_aload_n B dL_law_1484 3 rfl rfl ?_
  refine j_aload_n B dL_law_1485 4 rfl rfl ?_
  refine j_iload B dL_law_1486 0 rfl ?_
  refine j_iconst B (v := 1) dL_law_1488 (by decide) ?_
  refine j_iadd B dL_law_1489 ?_
  refine j_sld B hX hbl hbA g1 dL_law_1490 ?_
  refine j_aload_n B dL_law_1491 1 rfl rfl ?_
  refine j_cWi B (S := Unit) 3 [.ref (ad 0), .int (xs (i + 1).toNatClampNeg), .ref o] (WdC' := fun _ => pgWO D cD cC cL (fun z => A z ∧ ∀ k, k < 14 → z ≠ md k) (sp_askD σ (xs (i + 1).toNatClampNeg) 9).2.2 n ad o (if (sp_askD σ (xs (i + 1).toNatClampNeg) 9).1 = 0 then vp_updL f 0 (sp_askD σ (xs (i + 1).toNatClampNeg) 9).2.1.toInt64 else f)) (fun _ => pgWL D cD cC cI cZ cL A ((sp_askD σ (xs (i + 1).toNatClampNeg) 9).2.2) n ad o (if (sp_askD σ (xs (i + 1).toNatClampNeg) 9).1 = 0 then vp_updL f 0 (sp_askD σ (xs (i + 1).toNatClampNeg) 9).2.1.toInt64 else f) σ ρ th md) hW q_471 q_472 q_0 q_473 hdL_certificateOf rfl ⟨Nat.le_of_ble_eq_true rfl, Nat.le_of_ble_eq_true rfl⟩ (Nat.le_of_ble_eq_true rfl) dL_law_1492 rfl ⟨Nat.le_trans (Nat.add_le_add_left (Nat.le_of_ble_eq_true rfl) _) hcl.1, Nat.le_trans (Nat.add_le_add_left (Nat.le_of_ble_eq_true rfl) _) hcl.2⟩ (fun _ h => h.1) (fun _ h => h.new1) (fun _ h => h.1) (fun H H1 u h h1 hz hk => h.cls h1 hk) (fun r _ hp1 => ?_)
  subst hp1
  refine j_widen (k := cells + 5) (n := slots + 30) (Nat.add_le_add_left (Nat.le_of_ble_eq_true rfl) _) (Nat.add_le_add_left (Nat.le_of_ble_eq_true rfl) _) ?_
  refine j_istore B (L' := [(5, .int (nI (sp_askD σ (xs (i + 1).toNatClampNeg) 9).1)), (4, .int i), (3, .ref o), (2, .ref (md 0)), (1, .ref (ad 0)), (0, .ref b)]) dL_law_1495 (by decide) rfl ?_
  refine j_aload_n B dL_law_1497 3 rfl rfl ?_
  refine j_aload_n B dL_law_1498 5 rfl rfl ?_
  refine j_iload B dL_law_1499 1 rfl ?_
  refine j_iconst B (v := 1) dL_law_1501 (by decide) ?_
  refine j_iadd B dL_law_1502 ?_
  refine j_sld B hX hbl hbA g1 dL_law_1503 ?_
  refine j_cVi B (S := Unit) 1 [.int (xs (i + 1).toNatClampNeg)] (WdC' := fun _ => pgM D cI cZ (fun z => A z ∧ z ≠ o ∧ ∀ k, k < 13 + n → z ≠ ad k) (sp_askD σ (xs (i + 1).toNatClampNeg) 9).2.2 ρ (nI (sp_askD σ (xs (i + 1).toNatClampNeg) 9).1) md) (fun _ => pgWL D cD cC cI cZ cL A ((sp_askD σ (xs (i + 1).toNatClampNeg) 9).2.2) n ad o (if (sp_askD σ (xs (i + 1).toNatClampNeg) 9).1 = 0 then vp_updL f 0 (sp_askD σ (xs (i + 1).toNatClampNeg) 9).2.1.toInt64 else f) ((sp_askD σ (xs (i + 1).toNatClampNeg) 9).2.2) ρ (nI (sp_askD σ (xs (i + 1).toNatClampNeg) 9).1) md) (c_X3_certificateOf l D cD cC cI cZ cL (fun z => A z ∧ z ≠ o ∧ ∀ k, k < 13 + n → z ≠ ad k) σ ρ th md n hI (xs (i + 1).toNatClampNeg)) rfl (fun H h => h.2.m) q_690 q_691 q_692 q_3 q_693 hdX3_certificateOf rfl ⟨Nat.le_of_ble_eq_true rfl, Nat.le_of_ble_eq_true rfl⟩ (Nat.le_of_ble_eq_true rfl) dL_law_1504 rfl hcl (fun _ h => h.1) (fun _ h => h.new2) (fun _ h => h.2) (fun H H1 u h h1 hz hk => h.rf h1 hk) (fun r2 _ hp2 => ?_)
  refine j_istore B (L' := [(6, .int r2), (5, .int (nI (sp_askD σ (xs (i + 1).toNatClampNeg) 9).1)), (4, .int i), (3, .ref o), (2, .ref (md 0)), (1, .ref (ad 0)), (0, .ref b)]) dL_law_1507 (by decide) rfl ?_
  refine j_aload_n B dL_law_1509 4 rfl rfl ?_
  refine j_cVi B (S := Unit) 0 [] (WdC' := fun _ => pgM D cI cZ (fun z => A z ∧ z ≠ o ∧ ∀ k, k < 13 + n → z ≠ ad k) (sp_askD σ (xs (i + 1).toNatClampNeg) 9).2.2 ρ (nI (sp_askD σ (xs (i + 1).toNatClampNeg) 9).1) md) (fun _ => pgWL D cD cC cI cZ cL A ((sp_askD σ (xs (i + 1).toNatClampNeg) 9).2.2) n ad o (if (sp_askD σ (xs (i + 1).toNatClampNeg) 9).1 = 0 then vp_updL f 0 (sp_askD σ (xs (i + 1).toNatClampNeg) 9).2.1.toInt64 else f) ((sp_askD σ (xs (i + 1).toNatClampNeg) 9).2.2) ρ (nI (sp_askD σ (xs (i + 1).toNatClampNeg) 9).1) md) (c_X3_thrown l D cD cC cI cZ cL (fun z => A z ∧ z ≠ o ∧ ∀ k, k < 13 + n → z ≠ ad k) ((sp_askD σ (xs (i + 1).toNatClampNeg) 9).2.2) ρ (nI (sp_askD σ (xs (i + 1).toNatClampNeg) 9).1) md) rfl (fun H h => h.2.m) q_565 q_566 q_567 q_3 q_568 hdX3_thrown rfl ⟨Nat.le_of_ble_eq_true rfl, Nat.le_of_ble_eq_true rfl⟩ (Nat.le_of_ble_eq_true rfl) dL_law_1510 rfl hcl (fun _ h => h.1) (fun _ h => h.new2) (fun _ h => h.2) (fun H H1 u h h1 hz hk => h.rf h1 hk) (fun r3 _ hp3 => ?_)
  subst hp3
  refine j_iload B dL_law_1513 1 rfl ?_
  refine j_icmp_eq B 1520 dL_law_1515 (by decide) (fun _ => ?_) (fun h => absurd rfl h)
  refine j_iload B dL_law_1520 1 rfl ?_
  refine j_if_ne B 1537 dL_law_1522 (by decide) (fun _ => ?_) (fun h => ?_)
  · refine j_goto B 1760 dL_law_1537 (by decide) ?_
    refine j_locals (L' := [(4, .int i), (3, .ref o), (2, .ref (md 0)), (1, .ref (ad 0)), (0, .ref b)]) [2, 3, 4, 5, 6] rfl ?_
    exact kk _ _ _ _ _ _ kp.1 kp.2 rfl
  · have h0 := (pg_kx0 (by have := hsc.1; omega)).1 h
    refine j_aload_n B dL_law_1525 3 rfl rfl ?_
    refine j_iconst B (v := 0) dL_law_1526 (by decide) ?_
    refine j_lald B (fun H h => h.1.2.1) 4 rfl pg_in01 dL_law_1527 ?_
    refine j_iload B dL_law_1528 0 rfl ?_
    refine j_i2l B dL_law_1530 ?_
    refine j_lcmp B dL_law_1531 ?_
    refine j_if_eq B 1537 dL_law_1532 (by decide) (fun _ => ?_) (fun h9 => absurd (pg_cmp9 h0 (congrArg Int32.toInt64 (hp2 h0).symm)) h9)
    refine j_goto B 1760 dL_law_1537 (by decide) ?_
    refine j_locals (L' := [(4, .int i), (3, .ref o), (2, .ref (md 0)), (1, .ref (ad 0)), (0, .ref b)]) [2, 3, 4, 5, 6] rfl ?_
    exact kk _ _ _ _ _ _ kp.1 kp.2 rfl
set_option maxHeartbeats 4000000 in
set_option maxRecDepth 100000 in
/-- case 22: crateKeeper -/
theorem law_crateKeeper {p : Program} {l : Launch} {e : Env} {s : State} {m : MethodId} {args : Array Value} {below : List Frame} {meth : Method} {c : Code} {D : va_G} {cD cC cI cZ cL : ClassId} {A : Nat → Prop} {Q : State → Prop} (hl : l.stackTraces = false) (B : pgB p m c s args meth RL cL_law 7 D (pgTys cD cC cI cZ cL) A) {b L0 : Nat} {xs : Nat → Int32} (hX : va_X b L0 xs s s.heap) (hbl : b < s.heap.size) (hbA : ¬ A b) {i : Int32} (g1 : vp_in (i + 1) L0) (g2 : vp_in (i + 2) L0) (g3 : vp_in (i + 3) L0) {σ : pgSt} {n : Nat} {ad : Nat → Nat} {o : Nat} {f : Nat → Int64} {ρ : Nat → Int32} {th : Int32} {md : Nat → Nat} (hI : pgI n σ) (hR : pgRho σ ρ) {cells slots : Nat} (hcl : cells + 5 ≤ room_1.cells ∧ slots + 30 ≤ room_1.slots)
    (kk : ∀ (σ2 : pgSt) (n2 : Nat) (ad2 : Nat → Nat) (f2 : Nat → Int64) (ρ2 : Nat → Int32) (th2 : Int32), pgI n2 σ2 → pgRho σ2 ρ2 → ad2 0 = ad 0 → pgJ p l e room_1 s m args below meth c 7 A (pgWL D cD cC cI cZ cL A σ2 n2 ad2 o f2 σ2 ρ2 th2 md) (cells + 5) (slots + 30) Q 1760 [(4, .int i), (3, .ref o), (2, .ref (md 0)), (1, .ref (ad 0)), (0, .ref b)] []) : pgJ p l e room_1 s m args below meth c 7 A (pgWL D cD cC cI cZ cL A σ n ad o f σ ρ th md) cells slots Q 1540 [(4, .int i), (3, .ref o), (2, .ref (md 0)), (1, .ref (ad 0)), (0, .ref b)] [] := by
  have hsc := @sc_askC σ (xs (i + 1).toNatClampNeg) 10
  have kp : pgI n (sp_askC σ (xs (i + 1).toNatClampNeg) 10).2.2 ∧ pgRho (sp_askC σ (xs (i + 1).toNatClampNeg) 10).2.2 ρ := by rw [ss_askC]; exact ⟨hI, hR⟩
  have hW := c_L_crateKeeper l hl D cD cC cI cZ cL (fun z => A z ∧ ∀ k, k < 14 → z ≠ md k) σ n ad o f hI (xs (i + 1).toNatClampNeg)
  refine j_aload_n B dL_law_1540 3 rfl rfl ?_
  refine j_aload_n B dL_law_1541 4 rfl rfl ?_
  refine j_iload B dL_law_1542 0 rfl ?_
  refine j_iconst B (v := 1) dL_law_1544 (by decide) ?_
  refine j_iadd B dL_law_1545 ?_
  refine j_sld B hX hbl hbA g1 dL_law_1546 ?_
  refine j_aload_n B dL_law_1547 1 rfl rfl ?_
  refine j_cWi B (S := Unit) 3 [.ref (ad 0), .int (xs (i + 1).toNatClampNeg), .ref o] (WdC' := fun _ => pgWO D cD cC cL (fun z => A z ∧ ∀ k, k < 14 → z ≠ md k) (sp_askC σ (xs (i + 1).toNatClampNeg) 10).2.2 n ad o (if (sp_askC σ (xs (i + 1).toNatClampNeg) 10).1 = 0 then vp_updL f 0 (sp_askC σ (xs (i + 1).toNatClampNeg) 10).2.1.toInt64 else f)) (fun _ => pgWL D cD cC cI cZ cL A ((sp_askC σ (xs (i + 1).toNatClampNeg) 10).2.2) n ad o (if (sp_askC σ (xs (i + 1).toNatClampNeg) 10).1 = 0 then vp_updL f 0 (sp_askC σ (xs (i + 1).toNatClampNeg) 10).2.1.toInt64 else f) σ ρ th md) hW q_478 q_479 q_0 q_480 hdL_crateKeeper rfl ⟨Nat.le_of_ble_eq_true rfl, Nat.le_of_ble_eq_true rfl⟩ (Nat.le_of_ble_eq_true rfl) dL_law_1548 rfl ⟨Nat.le_trans (Nat.add_le_add_left (Nat.le_of_ble_eq_true rfl) _) hcl.1, Nat.le_trans (Nat.add_le_add_left (Nat.le_of_ble_eq_true rfl) _) hcl.2⟩ (fun _ h => h.1) (fun _ h => h.new1) (fun _ h => h.1) (fun H H1 u h h1 hz hk => h.cls h1 hk) (fun r _ hp1 => ?_)
  subst hp1
  refine j_widen (k := cells + 5) (n := slots + 30) (Nat.add_le_add_left (Nat.le_of_ble_eq_true rfl) _) (Nat.add_le_add_left (Nat.le_of_ble_eq_true rfl) _) ?_
  refine j_istore B (L' := [(5, .int (nI (sp_askC σ (xs (i + 1).toNatClampNeg) 10).1)), (4, .int i), (3, .ref o), (2, .ref (md 0)), (1, .ref (ad 0)), (0, .ref b)]) dL_law_1551 (by decide) rfl ?_
  refine j_aload_n B dL_law_1553 3 rfl rfl ?_
  refine j_aload_n B dL_law_1554 5 rfl rfl ?_
  refine j_iload B dL_law_1555 1 rfl ?_
  refine j_iconst B (v := 1) dL_law_1557 (by decide) ?_
  refine j_iadd B dL_law_1558 ?_
  refine j_sld B hX hbl hbA g1 dL_law_1559 ?_
  refine j_cVi B (S := Unit) 1 [.int (xs (i + 1).toNatClampNeg)] (WdC' := fun _ => pgM D cI cZ (fun z => A z ∧ z ≠ o ∧ ∀ k, k < 13 + n → z ≠ ad k) (sp_askC σ (xs (i + 1).toNatClampNeg) 10).2.2 ρ (nI (sp_askC σ (xs (i + 1).toNatClampNeg) 10).1) md) (fun _ => pgWL D cD cC cI cZ cL A ((sp_askC σ (xs (i + 1).toNatClampNeg) 10).2.2) n ad o (if (sp_askC σ (xs (i + 1).toNatClampNeg) 10).1 = 0 then vp_updL f 0 (sp_askC σ (xs (i + 1).toNatClampNeg) 10).2.1.toInt64 else f) ((sp_askC σ (xs (i + 1).toNatClampNeg) 10).2.2) ρ (nI (sp_askC σ (xs (i + 1).toNatClampNeg) 10).1) md) (c_X3_crateKeeper l D cD cC cI cZ cL (fun z => A z ∧ z ≠ o ∧ ∀ k, k < 13 + n → z ≠ ad k) σ ρ th md n hI (xs (i + 1).toNatClampNeg)) rfl (fun H h => h.2.m) q_694 q_695 q_696 q_3 q_697 hdX3_crateKeeper rfl ⟨Nat.le_of_ble_eq_true rfl, Nat.le_of_ble_eq_true rfl⟩ (Nat.le_of_ble_eq_true rfl) dL_law_1560 rfl hcl (fun _ h => h.1) (fun _ h => h.new2) (fun _ h => h.2) (fun H H1 u h h1 hz hk => h.rf h1 hk) (fun r2 _ hp2 => ?_)
  refine j_istore B (L' := [(6, .int r2), (5, .int (nI (sp_askC σ (xs (i + 1).toNatClampNeg) 10).1)), (4, .int i), (3, .ref o), (2, .ref (md 0)), (1, .ref (ad 0)), (0, .ref b)]) dL_law_1563 (by decide) rfl ?_
  refine j_aload_n B dL_law_1565 4 rfl rfl ?_
  refine j_cVi B (S := Unit) 0 [] (WdC' := fun _ => pgM D cI cZ (fun z => A z ∧ z ≠ o ∧ ∀ k, k < 13 + n → z ≠ ad k) (sp_askC σ (xs (i + 1).toNatClampNeg) 10).2.2 ρ (nI (sp_askC σ (xs (i + 1).toNatClampNeg) 10).1) md) (fun _ => pgWL D cD cC cI cZ cL A ((sp_askC σ (xs (i + 1).toNatClampNeg) 10).2.2) n ad o (if (sp_askC σ (xs (i + 1).toNatClampNeg) 10).1 = 0 then vp_updL f 0 (sp_askC σ (xs (i + 1).toNatClampNeg) 10).2.1.toInt64 else f) ((sp_askC σ (xs (i + 1).toNatClampNeg) 10).2.2) ρ (nI (sp_askC σ (xs (i + 1).toNatClampNeg) 10).1) md) (c_X3_thrown l D cD cC cI cZ cL (fun z => A z ∧ z ≠ o ∧ ∀ k, k < 13 + n → z ≠ ad k) ((sp_askC σ (xs (i + 1).toNatClampNeg) 10).2.2) ρ (nI (sp_askC σ (xs (i + 1).toNatClampNeg) 10).1) md) rfl (fun H h => h.2.m) q_565 q_566 q_567 q_3 q_568 hdX3_thrown rfl ⟨Nat.le_of_ble_eq_true rfl, Nat.le_of_ble_eq_true rfl⟩ (Nat.le_of_ble_eq_true rfl) dL_law_1566 rfl hcl (fun _ h => h.1) (fun _ h => h.new2) (fun _ h => h.2) (fun H H1 u h h1 hz hk => h.rf h1 hk) (fun r3 _ hp3 => ?_)
  subst hp3
  refine j_iload B dL_law_1569 1 rfl ?_
  refine j_icmp_eq B 1576 dL_law_1571 (by decide) (fun _ => ?_) (fun h => absurd rfl h)
  refine j_iload B dL_law_1576 1 rfl ?_
  refine j_if_ne B 1593 dL_law_1578 (by decide) (fun _ => ?_) (fun h => ?_)
  · refine j_goto B 1760 dL_law_1593 (by decide) ?_
    refine j_locals (L' := [(4, .int i), (3, .ref o), (2, .ref (md 0)), (1, .ref (ad 0)), (0, .ref b)]) [2, 3, 4, 5, 6] rfl ?_
    exact kk _ _ _ _ _ _ kp.1 kp.2 rfl
  · have h0 := (pg_kx0 (by have := hsc.1; omega)).1 h
    refine j_aload_n B dL_law_1581 3 rfl rfl ?_
    refine j_iconst B (v := 0) dL_law_1582 (by decide) ?_
    refine j_lald B (fun H h => h.1.2.1) 4 rfl pg_in01 dL_law_1583 ?_
    refine j_iload B dL_law_1584 0 rfl ?_
    refine j_i2l B dL_law_1586 ?_
    refine j_lcmp B dL_law_1587 ?_
    refine j_if_eq B 1593 dL_law_1588 (by decide) (fun _ => ?_) (fun h9 => absurd (pg_cmp9 h0 (congrArg Int32.toInt64 (hp2 h0).symm)) h9)
    refine j_goto B 1760 dL_law_1593 (by decide) ?_
    refine j_locals (L' := [(4, .int i), (3, .ref o), (2, .ref (md 0)), (1, .ref (ad 0)), (0, .ref b)]) [2, 3, 4, 5, 6] rfl ?_
    exact kk _ _ _ _ _ _ kp.1 kp.2 rfl
set_option maxHeartbeats 4000000 in
set_option maxRecDepth 100000 in
/-- case 23: sealOf -/
theorem law_sealOf {p : Program} {l : Launch} {e : Env} {s : State} {m : MethodId} {args : Array Value} {below : List Frame} {meth : Method} {c : Code} {D : va_G} {cD cC cI cZ cL : ClassId} {A : Nat → Prop} {Q : State → Prop} (hl : l.stackTraces = false) (B : pgB p m c s args meth RL cL_law 7 D (pgTys cD cC cI cZ cL) A) {b L0 : Nat} {xs : Nat → Int32} (hX : va_X b L0 xs s s.heap) (hbl : b < s.heap.size) (hbA : ¬ A b) {i : Int32} (g1 : vp_in (i + 1) L0) (g2 : vp_in (i + 2) L0) (g3 : vp_in (i + 3) L0) {σ : pgSt} {n : Nat} {ad : Nat → Nat} {o : Nat} {f : Nat → Int64} {ρ : Nat → Int32} {th : Int32} {md : Nat → Nat} (hI : pgI n σ) (hR : pgRho σ ρ) {cells slots : Nat} (hcl : cells + 5 ≤ room_1.cells ∧ slots + 30 ≤ room_1.slots)
    (kk : ∀ (σ2 : pgSt) (n2 : Nat) (ad2 : Nat → Nat) (f2 : Nat → Int64) (ρ2 : Nat → Int32) (th2 : Int32), pgI n2 σ2 → pgRho σ2 ρ2 → ad2 0 = ad 0 → pgJ p l e room_1 s m args below meth c 7 A (pgWL D cD cC cI cZ cL A σ2 n2 ad2 o f2 σ2 ρ2 th2 md) (cells + 5) (slots + 30) Q 1760 [(4, .int i), (3, .ref o), (2, .ref (md 0)), (1, .ref (ad 0)), (0, .ref b)] []) : pgJ p l e room_1 s m args below meth c 7 A (pgWL D cD cC cI cZ cL A σ n ad o f σ ρ th md) cells slots Q 1596 [(4, .int i), (3, .ref o), (2, .ref (md 0)), (1, .ref (ad 0)), (0, .ref b)] [] := by
  have hsc := @sc_askC σ (xs (i + 1).toNatClampNeg) 11
  have kp : pgI n (sp_askC σ (xs (i + 1).toNatClampNeg) 11).2.2 ∧ pgRho (sp_askC σ (xs (i + 1).toNatClampNeg) 11).2.2 ρ := by rw [ss_askC]; exact ⟨hI, hR⟩
  have hW := c_L_sealOf l hl D cD cC cI cZ cL (fun z => A z ∧ ∀ k, k < 14 → z ≠ md k) σ n ad o f hI (xs (i + 1).toNatClampNeg)
  refine j_aload_n B dL_law_1596 3 rfl rfl ?_
  refine j_aload_n B dL_law_1597 4 rfl rfl ?_
  refine j_iload B dL_law_1598 0 rfl ?_
  refine j_iconst B (v := 1) dL_law_1600 (by decide) ?_
  refine j_iadd B dL_law_1601 ?_
  refine j_sld B hX hbl hbA g1 dL_law_1602 ?_
  refine j_aload_n B dL_law_1603 1 rfl rfl ?_
  refine j_cWi B (S := Unit) 3 [.ref (ad 0), .int (xs (i + 1).toNatClampNeg), .ref o] (WdC' := fun _ => pgWO D cD cC cL (fun z => A z ∧ ∀ k, k < 14 → z ≠ md k) (sp_askC σ (xs (i + 1).toNatClampNeg) 11).2.2 n ad o (if (sp_askC σ (xs (i + 1).toNatClampNeg) 11).1 = 0 then vp_updL f 0 (sp_askC σ (xs (i + 1).toNatClampNeg) 11).2.1.toInt64 else f)) (fun _ => pgWL D cD cC cI cZ cL A ((sp_askC σ (xs (i + 1).toNatClampNeg) 11).2.2) n ad o (if (sp_askC σ (xs (i + 1).toNatClampNeg) 11).1 = 0 then vp_updL f 0 (sp_askC σ (xs (i + 1).toNatClampNeg) 11).2.1.toInt64 else f) σ ρ th md) hW q_485 q_486 q_0 q_487 hdL_sealOf rfl ⟨Nat.le_of_ble_eq_true rfl, Nat.le_of_ble_eq_true rfl⟩ (Nat.le_of_ble_eq_true rfl) dL_law_1604 rfl ⟨Nat.le_trans (Nat.add_le_add_left (Nat.le_of_ble_eq_true rfl) _) hcl.1, Nat.le_trans (Nat.add_le_add_left (Nat.le_of_ble_eq_true rfl) _) hcl.2⟩ (fun _ h => h.1) (fun _ h => h.new1) (fun _ h => h.1) (fun H H1 u h h1 hz hk => h.cls h1 hk) (fun r _ hp1 => ?_)
  subst hp1
  refine j_widen (k := cells + 5) (n := slots + 30) (Nat.add_le_add_left (Nat.le_of_ble_eq_true rfl) _) (Nat.add_le_add_left (Nat.le_of_ble_eq_true rfl) _) ?_
  refine j_istore B (L' := [(5, .int (nI (sp_askC σ (xs (i + 1).toNatClampNeg) 11).1)), (4, .int i), (3, .ref o), (2, .ref (md 0)), (1, .ref (ad 0)), (0, .ref b)]) dL_law_1607 (by decide) rfl ?_
  refine j_aload_n B dL_law_1609 3 rfl rfl ?_
  refine j_aload_n B dL_law_1610 5 rfl rfl ?_
  refine j_iload B dL_law_1611 1 rfl ?_
  refine j_iconst B (v := 1) dL_law_1613 (by decide) ?_
  refine j_iadd B dL_law_1614 ?_
  refine j_sld B hX hbl hbA g1 dL_law_1615 ?_
  refine j_cVi B (S := Unit) 1 [.int (xs (i + 1).toNatClampNeg)] (WdC' := fun _ => pgM D cI cZ (fun z => A z ∧ z ≠ o ∧ ∀ k, k < 13 + n → z ≠ ad k) (sp_askC σ (xs (i + 1).toNatClampNeg) 11).2.2 ρ (nI (sp_askC σ (xs (i + 1).toNatClampNeg) 11).1) md) (fun _ => pgWL D cD cC cI cZ cL A ((sp_askC σ (xs (i + 1).toNatClampNeg) 11).2.2) n ad o (if (sp_askC σ (xs (i + 1).toNatClampNeg) 11).1 = 0 then vp_updL f 0 (sp_askC σ (xs (i + 1).toNatClampNeg) 11).2.1.toInt64 else f) ((sp_askC σ (xs (i + 1).toNatClampNeg) 11).2.2) ρ (nI (sp_askC σ (xs (i + 1).toNatClampNeg) 11).1) md) (c_X3_sealOf l D cD cC cI cZ cL (fun z => A z ∧ z ≠ o ∧ ∀ k, k < 13 + n → z ≠ ad k) σ ρ th md n hI (xs (i + 1).toNatClampNeg)) rfl (fun H h => h.2.m) q_698 q_699 q_700 q_3 q_701 hdX3_sealOf rfl ⟨Nat.le_of_ble_eq_true rfl, Nat.le_of_ble_eq_true rfl⟩ (Nat.le_of_ble_eq_true rfl) dL_law_1616 rfl hcl (fun _ h => h.1) (fun _ h => h.new2) (fun _ h => h.2) (fun H H1 u h h1 hz hk => h.rf h1 hk) (fun r2 _ hp2 => ?_)
  refine j_istore B (L' := [(6, .int r2), (5, .int (nI (sp_askC σ (xs (i + 1).toNatClampNeg) 11).1)), (4, .int i), (3, .ref o), (2, .ref (md 0)), (1, .ref (ad 0)), (0, .ref b)]) dL_law_1619 (by decide) rfl ?_
  refine j_aload_n B dL_law_1621 4 rfl rfl ?_
  refine j_cVi B (S := Unit) 0 [] (WdC' := fun _ => pgM D cI cZ (fun z => A z ∧ z ≠ o ∧ ∀ k, k < 13 + n → z ≠ ad k) (sp_askC σ (xs (i + 1).toNatClampNeg) 11).2.2 ρ (nI (sp_askC σ (xs (i + 1).toNatClampNeg) 11).1) md) (fun _ => pgWL D cD cC cI cZ cL A ((sp_askC σ (xs (i + 1).toNatClampNeg) 11).2.2) n ad o (if (sp_askC σ (xs (i + 1).toNatClampNeg) 11).1 = 0 then vp_updL f 0 (sp_askC σ (xs (i + 1).toNatClampNeg) 11).2.1.toInt64 else f) ((sp_askC σ (xs (i + 1).toNatClampNeg) 11).2.2) ρ (nI (sp_askC σ (xs (i + 1).toNatClampNeg) 11).1) md) (c_X3_thrown l D cD cC cI cZ cL (fun z => A z ∧ z ≠ o ∧ ∀ k, k < 13 + n → z ≠ ad k) ((sp_askC σ (xs (i + 1).toNatClampNeg) 11).2.2) ρ (nI (sp_askC σ (xs (i + 1).toNatClampNeg) 11).1) md) rfl (fun H h => h.2.m) q_565 q_566 q_567 q_3 q_568 hdX3_thrown rfl ⟨Nat.le_of_ble_eq_true rfl, Nat.le_of_ble_eq_true rfl⟩ (Nat.le_of_ble_eq_true rfl) dL_law_1622 rfl hcl (fun _ h => h.1) (fun _ h => h.new2) (fun _ h => h.2) (fun H H1 u h h1 hz hk => h.rf h1 hk) (fun r3 _ hp3 => ?_)
  subst hp3
  refine j_iload B dL_law_1625 1 rfl ?_
  refine j_icmp_eq B 1632 dL_law_1627 (by decide) (fun _ => ?_) (fun h => absurd rfl h)
  refine j_iload B dL_law_1632 1 rfl ?_
  refine j_if_ne B 1649 dL_law_1634 (by decide) (fun _ => ?_) (fun h => ?_)
  · refine j_goto B 1760 dL_law_1649 (by decide) ?_
    refine j_locals (L' := [(4, .int i), (3, .ref o), (2, .ref (md 0)), (1, .ref (ad 0)), (0, .ref b)]) [2, 3, 4, 5, 6] rfl ?_
    exact kk _ _ _ _ _ _ kp.1 kp.2 rfl
  · have h0 := (pg_kx0 (by have := hsc.1; omega)).1 h
    refine j_aload_n B dL_law_1637 3 rfl rfl ?_
    refine j_iconst B (v := 0) dL_law_1638 (by decide) ?_
    refine j_lald B (fun H h => h.1.2.1) 4 rfl pg_in01 dL_law_1639 ?_
    refine j_iload B dL_law_1640 0 rfl ?_
    refine j_i2l B dL_law_1642 ?_
    refine j_lcmp B dL_law_1643 ?_
    refine j_if_eq B 1649 dL_law_1644 (by decide) (fun _ => ?_) (fun h9 => absurd (pg_cmp9 h0 (congrArg Int32.toInt64 (hp2 h0).symm)) h9)
    refine j_goto B 1760 dL_law_1649 (by decide) ?_
    refine j_locals (L' := [(4, .int i), (3, .ref o), (2, .ref (md 0)), (1, .ref (ad 0)), (0, .ref b)]) [2, 3, 4, 5, 6] rfl ?_
    exact kk _ _ _ _ _ _ kp.1 kp.2 rfl
set_option maxHeartbeats 4000000 in
set_option maxRecDepth 100000 in
/-- case 24: has -/
theorem law_has {p : Program} {l : Launch} {e : Env} {s : State} {m : MethodId} {args : Array Value} {below : List Frame} {meth : Method} {c : Code} {D : va_G} {cD cC cI cZ cL : ClassId} {A : Nat → Prop} {Q : State → Prop} (hl : l.stackTraces = false) (B : pgB p m c s args meth RL cL_law 7 D (pgTys cD cC cI cZ cL) A) {b L0 : Nat} {xs : Nat → Int32} (hX : va_X b L0 xs s s.heap) (hbl : b < s.heap.size) (hbA : ¬ A b) {i : Int32} (g1 : vp_in (i + 1) L0) (g2 : vp_in (i + 2) L0) (g3 : vp_in (i + 3) L0) {σ : pgSt} {n : Nat} {ad : Nat → Nat} {o : Nat} {f : Nat → Int64} {ρ : Nat → Int32} {th : Int32} {md : Nat → Nat} (hI : pgI n σ) (hR : pgRho σ ρ) {cells slots : Nat} (hcl : cells + 5 ≤ room_1.cells ∧ slots + 30 ≤ room_1.slots)
    (kk : ∀ (σ2 : pgSt) (n2 : Nat) (ad2 : Nat → Nat) (f2 : Nat → Int64) (ρ2 : Nat → Int32) (th2 : Int32), pgI n2 σ2 → pgRho σ2 ρ2 → ad2 0 = ad 0 → pgJ p l e room_1 s m args below meth c 7 A (pgWL D cD cC cI cZ cL A σ2 n2 ad2 o f2 σ2 ρ2 th2 md) (cells + 5) (slots + 30) Q 1760 [(4, .int i), (3, .ref o), (2, .ref (md 0)), (1, .ref (ad 0)), (0, .ref b)] []) : pgJ p l e room_1 s m args below meth c 7 A (pgWL D cD cC cI cZ cL A σ n ad o f σ ρ th md) cells slots Q 1652 [(4, .int i), (3, .ref o), (2, .ref (md 0)), (1, .ref (ad 0)), (0, .ref b)] [] := by
  have hsc := @sc_has σ (xs (i + 1).toNatClampNeg)
  have kp : pgI n (sp_has σ (xs (i + 1).toNatClampNeg)).2.2 ∧ pgRho (sp_has σ (xs (i + 1).toNatClampNeg)).2.2 ρ := by rw [ss_has]; exact ⟨hI, hR⟩
  have hW := c_L_has l hl D cD cC cI cZ cL (fun z => A z ∧ ∀ k, k < 14 → z ≠ md k) σ n ad o f hI (xs (i + 1).toNatClampNeg)
  refine j_aload_n B dL_law_1652 3 rfl rfl ?_
  refine j_aload_n B dL_law_1653 4 rfl rfl ?_
  refine j_iload B dL_law_1654 0 rfl ?_
  refine j_iconst B (v := 1) dL_law_1656 (by decide) ?_
  refine j_iadd B dL_law_1657 ?_
  refine j_sld B hX hbl hbA g1 dL_law_1658 ?_
  refine j_aload_n B dL_law_1659 1 rfl rfl ?_
  refine j_cWi B (S := Unit) 3 [.ref (ad 0), .int (xs (i + 1).toNatClampNeg), .ref o] (WdC' := fun _ => pgWO D cD cC cL (fun z => A z ∧ ∀ k, k < 14 → z ≠ md k) (sp_has σ (xs (i + 1).toNatClampNeg)).2.2 n ad o (if (sp_has σ (xs (i + 1).toNatClampNeg)).1 = 0 then vp_updL f 0 (sp_has σ (xs (i + 1).toNatClampNeg)).2.1.toInt64 else f)) (fun _ => pgWL D cD cC cI cZ cL A ((sp_has σ (xs (i + 1).toNatClampNeg)).2.2) n ad o (if (sp_has σ (xs (i + 1).toNatClampNeg)).1 = 0 then vp_updL f 0 (sp_has σ (xs (i + 1).toNatClampNeg)).2.1.toInt64 else f) σ ρ th md) hW q_492 q_493 q_0 q_494 hdL_has rfl ⟨Nat.le_of_ble_eq_true rfl, Nat.le_of_ble_eq_true rfl⟩ (Nat.le_of_ble_eq_true rfl) dL_law_1660 rfl ⟨Nat.le_trans (Nat.add_le_add_left (Nat.le_of_ble_eq_true rfl) _) hcl.1, Nat.le_trans (Nat.add_le_add_left (Nat.le_of_ble_eq_true rfl) _) hcl.2⟩ (fun _ h => h.1) (fun _ h => h.new1) (fun _ h => h.1) (fun H H1 u h h1 hz hk => h.cls h1 hk) (fun r _ hp1 => ?_)
  subst hp1
  refine j_widen (k := cells + 5) (n := slots + 30) (Nat.add_le_add_left (Nat.le_of_ble_eq_true rfl) _) (Nat.add_le_add_left (Nat.le_of_ble_eq_true rfl) _) ?_
  refine j_istore B (L' := [(5, .int (nI (sp_has σ (xs (i + 1).toNatClampNeg)).1)), (4, .int i), (3, .ref o), (2, .ref (md 0)), (1, .ref (ad 0)), (0, .ref b)]) dL_law_1663 (by decide) rfl ?_
  refine j_aload_n B dL_law_1665 3 rfl rfl ?_
  refine j_aload_n B dL_law_1666 5 rfl rfl ?_
  refine j_iload B dL_law_1667 1 rfl ?_
  refine j_iconst B (v := 1) dL_law_1669 (by decide) ?_
  refine j_iadd B dL_law_1670 ?_
  refine j_sld B hX hbl hbA g1 dL_law_1671 ?_
  refine j_cVi B (S := Unit) 1 [.int (xs (i + 1).toNatClampNeg)] (WdC' := fun _ => pgM D cI cZ (fun z => A z ∧ z ≠ o ∧ ∀ k, k < 13 + n → z ≠ ad k) (sp_has σ (xs (i + 1).toNatClampNeg)).2.2 ρ (nI (sp_has σ (xs (i + 1).toNatClampNeg)).1) md) (fun _ => pgWL D cD cC cI cZ cL A ((sp_has σ (xs (i + 1).toNatClampNeg)).2.2) n ad o (if (sp_has σ (xs (i + 1).toNatClampNeg)).1 = 0 then vp_updL f 0 (sp_has σ (xs (i + 1).toNatClampNeg)).2.1.toInt64 else f) ((sp_has σ (xs (i + 1).toNatClampNeg)).2.2) ρ (nI (sp_has σ (xs (i + 1).toNatClampNeg)).1) md) (c_X3_has l D cD cC cI cZ cL (fun z => A z ∧ z ≠ o ∧ ∀ k, k < 13 + n → z ≠ ad k) σ ρ th md n hI (xs (i + 1).toNatClampNeg)) rfl (fun H h => h.2.m) q_702 q_703 q_704 q_3 q_705 hdX3_has rfl ⟨Nat.le_of_ble_eq_true rfl, Nat.le_of_ble_eq_true rfl⟩ (Nat.le_of_ble_eq_true rfl) dL_law_1672 rfl hcl (fun _ h => h.1) (fun _ h => h.new2) (fun _ h => h.2) (fun H H1 u h h1 hz hk => h.rf h1 hk) (fun r2 _ hp2 => ?_)
  refine j_istore B (L' := [(6, .int r2), (5, .int (nI (sp_has σ (xs (i + 1).toNatClampNeg)).1)), (4, .int i), (3, .ref o), (2, .ref (md 0)), (1, .ref (ad 0)), (0, .ref b)]) dL_law_1675 (by decide) rfl ?_
  refine j_aload_n B dL_law_1677 4 rfl rfl ?_
  refine j_cVi B (S := Unit) 0 [] (WdC' := fun _ => pgM D cI cZ (fun z => A z ∧ z ≠ o ∧ ∀ k, k < 13 + n → z ≠ ad k) (sp_has σ (xs (i + 1).toNatClampNeg)).2.2 ρ (nI (sp_has σ (xs (i + 1).toNatClampNeg)).1) md) (fun _ => pgWL D cD cC cI cZ cL A ((sp_has σ (xs (i + 1).toNatClampNeg)).2.2) n ad o (if (sp_has σ (xs (i + 1).toNatClampNeg)).1 = 0 then vp_updL f 0 (sp_has σ (xs (i + 1).toNatClampNeg)).2.1.toInt64 else f) ((sp_has σ (xs (i + 1).toNatClampNeg)).2.2) ρ (nI (sp_has σ (xs (i + 1).toNatClampNeg)).1) md) (c_X3_thrown l D cD cC cI cZ cL (fun z => A z ∧ z ≠ o ∧ ∀ k, k < 13 + n → z ≠ ad k) ((sp_has σ (xs (i + 1).toNatClampNeg)).2.2) ρ (nI (sp_has σ (xs (i + 1).toNatClampNeg)).1) md) rfl (fun H h => h.2.m) q_565 q_566 q_567 q_3 q_568 hdX3_thrown rfl ⟨Nat.le_of_ble_eq_true rfl, Nat.le_of_ble_eq_true rfl⟩ (Nat.le_of_ble_eq_true rfl) dL_law_1678 rfl hcl (fun _ h => h.1) (fun _ h => h.new2) (fun _ h => h.2) (fun H H1 u h h1 hz hk => h.rf h1 hk) (fun r3 _ hp3 => ?_)
  subst hp3
  refine j_iload B dL_law_1681 1 rfl ?_
  refine j_icmp_eq B 1688 dL_law_1683 (by decide) (fun _ => ?_) (fun h => absurd rfl h)
  refine j_iload B dL_law_1688 1 rfl ?_
  refine j_if_ne B 1705 dL_law_1690 (by decide) (fun _ => ?_) (fun h => ?_)
  · refine j_goto B 1760 dL_law_1705 (by decide) ?_
    refine j_locals (L' := [(4, .int i), (3, .ref o), (2, .ref (md 0)), (1, .ref (ad 0)), (0, .ref b)]) [2, 3, 4, 5, 6] rfl ?_
    exact kk _ _ _ _ _ _ kp.1 kp.2 rfl
  · have h0 := (pg_kx0 (by have := hsc.1; omega)).1 h
    refine j_aload_n B dL_law_1693 3 rfl rfl ?_
    refine j_iconst B (v := 0) dL_law_1694 (by decide) ?_
    refine j_lald B (fun H h => h.1.2.1) 4 rfl pg_in01 dL_law_1695 ?_
    refine j_iload B dL_law_1696 0 rfl ?_
    refine j_i2l B dL_law_1698 ?_
    refine j_lcmp B dL_law_1699 ?_
    refine j_if_eq B 1705 dL_law_1700 (by decide) (fun _ => ?_) (fun h9 => absurd (pg_cmp9 h0 (congrArg Int32.toInt64 (hp2 h0).symm)) h9)
    refine j_goto B 1760 dL_law_1705 (by decide) ?_
    refine j_locals (L' := [(4, .int i), (3, .ref o), (2, .ref (md 0)), (1, .ref (ad 0)), (0, .ref b)]) [2, 3, 4, 5, 6] rfl ?_
    exact kk _ _ _ _ _ _ kp.1 kp.2 rfl
set_option maxHeartbeats 4000000 in
set_option maxRecDepth 100000 in
/-- case 25: missing -/
theorem law_missing {p : Program} {l : Launch} {e : Env} {s : State} {m : MethodId} {args : Array Value} {below : List Frame} {meth : Method} {c : Code} {D : va_G} {cD cC cI cZ cL : ClassId} {A : Nat → Prop} {Q : State → Prop} (hl : l.stackTraces = false) (B : pgB p m c s args meth RL cL_law 7 D (pgTys cD cC cI cZ cL) A) {b L0 : Nat} {xs : Nat → Int32} (hX : va_X b L0 xs s s.heap) (hbl : b < s.heap.size) (hbA : ¬ A b) {i : Int32} (g1 : vp_in (i + 1) L0) (g2 : vp_in (i + 2) L0) (g3 : vp_in (i + 3) L0) {σ : pgSt} {n : Nat} {ad : Nat → Nat} {o : Nat} {f : Nat → Int64} {ρ : Nat → Int32} {th : Int32} {md : Nat → Nat} (hI : pgI n σ) (hR : pgRho σ ρ) {cells slots : Nat} (hcl : cells + 5 ≤ room_1.cells ∧ slots + 30 ≤ room_1.slots)
    (kk : ∀ (σ2 : pgSt) (n2 : Nat) (ad2 : Nat → Nat) (f2 : Nat → Int64) (ρ2 : Nat → Int32) (th2 : Int32), pgI n2 σ2 → pgRho σ2 ρ2 → ad2 0 = ad 0 → pgJ p l e room_1 s m args below meth c 7 A (pgWL D cD cC cI cZ cL A σ2 n2 ad2 o f2 σ2 ρ2 th2 md) (cells + 5) (slots + 30) Q 1760 [(4, .int i), (3, .ref o), (2, .ref (md 0)), (1, .ref (ad 0)), (0, .ref b)] []) : pgJ p l e room_1 s m args below meth c 7 A (pgWL D cD cC cI cZ cL A σ n ad o f σ ρ th md) cells slots Q 1708 [(4, .int i), (3, .ref o), (2, .ref (md 0)), (1, .ref (ad 0)), (0, .ref b)] [] := by
  refine j_aload_n B dL_law_1708 3 rfl rfl ?_
  refine j_cVi B (S := Unit) 0 [] (WdC' := fun _ => pgR D cD cC (fun z => (A z ∧ ∀ k, k < 14 → z ≠ md k) ∧ z ≠ o) σ n ad) (fun _ => pgWL D cD cC cI cZ cL A σ n ad o f σ ρ th md) (c_X2_missing l D cD cC cI cZ cL (fun z => (A z ∧ ∀ k, k < 14 → z ≠ md k) ∧ z ≠ o) σ n ad hI) rfl (fun H h => h.1.1.x) q_71 q_72 q_73 q_1 q_74 hdX2_missing rfl ⟨Nat.le_of_ble_eq_true rfl, Nat.le_of_ble_eq_true rfl⟩ (Nat.le_of_ble_eq_true rfl) dL_law_1709 rfl ⟨Nat.le_trans (Nat.add_le_add_left (Nat.le_of_ble_eq_true rfl) _) hcl.1, Nat.le_trans (Nat.add_le_add_left (Nat.le_of_ble_eq_true rfl) _) hcl.2⟩ (fun _ h => h.1.1) (fun _ h => h.new0) (fun _ h => h.1.1) (fun H H1 u h h1 hz hk => h.cls0 h1 hk) (fun r _ hp1 => ?_)
  subst hp1
  refine j_widen (k := cells + 5) (n := slots + 30) (Nat.add_le_add_left (Nat.le_of_ble_eq_true rfl) _) (Nat.add_le_add_left (Nat.le_of_ble_eq_true rfl) _) ?_
  refine j_aload_n B dL_law_1712 2 rfl rfl ?_
  refine j_cVi B (S := Unit) 0 [] (WdC' := fun _ => pgM D cI cZ (fun z => A z ∧ z ≠ o ∧ ∀ k, k < 13 + n → z ≠ ad k) σ ρ 0 md) (fun _ => pgWL D cD cC cI cZ cL A σ n ad o f σ ρ 0 md) (c_X3_missing l D cD cC cI cZ cL (fun z => A z ∧ z ≠ o ∧ ∀ k, k < 13 + n → z ≠ ad k) σ ρ th md n hI) rfl (fun H h => h.2.m) q_706 q_707 q_708 q_3 q_709 hdX3_missing rfl ⟨Nat.le_of_ble_eq_true rfl, Nat.le_of_ble_eq_true rfl⟩ (Nat.le_of_ble_eq_true rfl) dL_law_1713 rfl hcl (fun _ h => h.1) (fun _ h => h.new2) (fun _ h => h.2) (fun H H1 u h h1 hz hk => h.rf h1 hk) (fun r2 _ hp2 => ?_)
  subst hp2
  refine j_icmp_eq B 1760 dL_law_1716 (by decide) (fun _ => ?_) (fun h => absurd rfl h)
  exact kk _ _ _ _ _ _ hI hR rfl
set_option maxHeartbeats 4000000 in
set_option maxRecDepth 100000 in
/-- case 26: oddCounts -/
theorem law_oddCounts {p : Program} {l : Launch} {e : Env} {s : State} {m : MethodId} {args : Array Value} {below : List Frame} {meth : Method} {c : Code} {D : va_G} {cD cC cI cZ cL : ClassId} {A : Nat → Prop} {Q : State → Prop} (hl : l.stackTraces = false) (B : pgB p m c s args meth RL cL_law 7 D (pgTys cD cC cI cZ cL) A) {b L0 : Nat} {xs : Nat → Int32} (hX : va_X b L0 xs s s.heap) (hbl : b < s.heap.size) (hbA : ¬ A b) {i : Int32} (g1 : vp_in (i + 1) L0) (g2 : vp_in (i + 2) L0) (g3 : vp_in (i + 3) L0) {σ : pgSt} {n : Nat} {ad : Nat → Nat} {o : Nat} {f : Nat → Int64} {ρ : Nat → Int32} {th : Int32} {md : Nat → Nat} (hI : pgI n σ) (hR : pgRho σ ρ) {cells slots : Nat} (hcl : cells + 5 ≤ room_1.cells ∧ slots + 30 ≤ room_1.slots)
    (kk : ∀ (σ2 : pgSt) (n2 : Nat) (ad2 : Nat → Nat) (f2 : Nat → Int64) (ρ2 : Nat → Int32) (th2 : Int32), pgI n2 σ2 → pgRho σ2 ρ2 → ad2 0 = ad 0 → pgJ p l e room_1 s m args below meth c 7 A (pgWL D cD cC cI cZ cL A σ2 n2 ad2 o f2 σ2 ρ2 th2 md) (cells + 5) (slots + 30) Q 1760 [(4, .int i), (3, .ref o), (2, .ref (md 0)), (1, .ref (ad 0)), (0, .ref b)] []) : pgJ p l e room_1 s m args below meth c 7 A (pgWL D cD cC cI cZ cL A σ n ad o f σ ρ th md) cells slots Q 1721 [(4, .int i), (3, .ref o), (2, .ref (md 0)), (1, .ref (ad 0)), (0, .ref b)] [] := by
  refine j_aload_n B dL_law_1721 3 rfl rfl ?_
  refine j_cVi B (S := Unit) 0 [] (WdC' := fun _ => pgR D cD cC (fun z => (A z ∧ ∀ k, k < 14 → z ≠ md k) ∧ z ≠ o) σ n ad) (fun _ => pgWL D cD cC cI cZ cL A σ n ad o f σ ρ th md) (c_X2_oddCounts l D cD cC cI cZ cL (fun z => (A z ∧ ∀ k, k < 14 → z ≠ md k) ∧ z ≠ o) σ n ad) rfl (fun H h => h.1.1.x) q_75 q_76 q_77 q_1 q_78 hdX2_oddCounts rfl ⟨Nat.le_of_ble_eq_true rfl, Nat.le_of_ble_eq_true rfl⟩ (Nat.le_of_ble_eq_true rfl) dL_law_1722 rfl ⟨Nat.le_trans (Nat.add_le_add_left (Nat.le_of_ble_eq_true rfl) _) hcl.1, Nat.le_trans (Nat.add_le_add_left (Nat.le_of_ble_eq_true rfl) _) hcl.2⟩ (fun _ h => h.1.1) (fun _ h => h.new0) (fun _ h => h.1.1) (fun H H1 u h h1 hz hk => h.cls0 h1 hk) (fun r _ hp1 => ?_)
  subst hp1
  refine j_widen (k := cells + 5) (n := slots + 30) (Nat.add_le_add_left (Nat.le_of_ble_eq_true rfl) _) (Nat.add_le_add_left (Nat.le_of_ble_eq_true rfl) _) ?_
  refine j_aload_n B dL_law_1725 2 rfl rfl ?_
  refine j_cVi B (S := Unit) 0 [] (WdC' := fun _ => pgM D cI cZ (fun z => A z ∧ z ≠ o ∧ ∀ k, k < 13 + n → z ≠ ad k) σ ρ 0 md) (fun _ => pgWL D cD cC cI cZ cL A σ n ad o f σ ρ 0 md) (c_X3_oddCounts l D cD cC cI cZ cL (fun z => A z ∧ z ≠ o ∧ ∀ k, k < 13 + n → z ≠ ad k) σ ρ th md) rfl (fun H h => h.2.m) q_710 q_711 q_712 q_3 q_713 hdX3_oddCounts rfl ⟨Nat.le_of_ble_eq_true rfl, Nat.le_of_ble_eq_true rfl⟩ (Nat.le_of_ble_eq_true rfl) dL_law_1726 rfl hcl (fun _ h => h.1) (fun _ h => h.new2) (fun _ h => h.2) (fun H H1 u h h1 hz hk => h.rf h1 hk) (fun r2 _ hp2 => ?_)
  subst hp2
  refine j_icmp_eq B 1760 dL_law_1729 (by decide) (fun _ => ?_) (fun h => absurd rfl h)
  exact kk _ _ _ _ _ _ hI hR rfl
set_option maxHeartbeats 4000000 in
set_option maxRecDepth 100000 in
/-- case 27: logged -/
theorem law_logged {p : Program} {l : Launch} {e : Env} {s : State} {m : MethodId} {args : Array Value} {below : List Frame} {meth : Method} {c : Code} {D : va_G} {cD cC cI cZ cL : ClassId} {A : Nat → Prop} {Q : State → Prop} (hl : l.stackTraces = false) (B : pgB p m c s args meth RL cL_law 7 D (pgTys cD cC cI cZ cL) A) {b L0 : Nat} {xs : Nat → Int32} (hX : va_X b L0 xs s s.heap) (hbl : b < s.heap.size) (hbA : ¬ A b) {i : Int32} (g1 : vp_in (i + 1) L0) (g2 : vp_in (i + 2) L0) (g3 : vp_in (i + 3) L0) {σ : pgSt} {n : Nat} {ad : Nat → Nat} {o : Nat} {f : Nat → Int64} {ρ : Nat → Int32} {th : Int32} {md : Nat → Nat} (hI : pgI n σ) (hR : pgRho σ ρ) {cells slots : Nat} (hcl : cells + 5 ≤ room_1.cells ∧ slots + 30 ≤ room_1.slots)
    (kk : ∀ (σ2 : pgSt) (n2 : Nat) (ad2 : Nat → Nat) (f2 : Nat → Int64) (ρ2 : Nat → Int32) (th2 : Int32), pgI n2 σ2 → pgRho σ2 ρ2 → ad2 0 = ad 0 → pgJ p l e room_1 s m args below meth c 7 A (pgWL D cD cC cI cZ cL A σ2 n2 ad2 o f2 σ2 ρ2 th2 md) (cells + 5) (slots + 30) Q 1760 [(4, .int i), (3, .ref o), (2, .ref (md 0)), (1, .ref (ad 0)), (0, .ref b)] []) : pgJ p l e room_1 s m args below meth c 7 A (pgWL D cD cC cI cZ cL A σ n ad o f σ ρ th md) cells slots Q 1734 [(4, .int i), (3, .ref o), (2, .ref (md 0)), (1, .ref (ad 0)), (0, .ref b)] [] := by
  refine j_aload_n B dL_law_1734 3 rfl rfl ?_
  refine j_cVi B (S := Unit) 0 [] (WdC' := fun _ => pgR D cD cC (fun z => (A z ∧ ∀ k, k < 14 → z ≠ md k) ∧ z ≠ o) σ n ad) (fun _ => pgWL D cD cC cI cZ cL A σ n ad o f σ ρ th md) (c_X2_logged l D cD cC cI cZ cL (fun z => (A z ∧ ∀ k, k < 14 → z ≠ md k) ∧ z ≠ o) σ n ad) rfl (fun H h => h.1.1.x) q_79 q_80 q_81 q_1 q_82 hdX2_logged rfl ⟨Nat.le_of_ble_eq_true rfl, Nat.le_of_ble_eq_true rfl⟩ (Nat.le_of_ble_eq_true rfl) dL_law_1735 rfl ⟨Nat.le_trans (Nat.add_le_add_left (Nat.le_of_ble_eq_true rfl) _) hcl.1, Nat.le_trans (Nat.add_le_add_left (Nat.le_of_ble_eq_true rfl) _) hcl.2⟩ (fun _ h => h.1.1) (fun _ h => h.new0) (fun _ h => h.1.1) (fun H H1 u h h1 hz hk => h.cls0 h1 hk) (fun r _ hp1 => ?_)
  subst hp1
  refine j_widen (k := cells + 5) (n := slots + 30) (Nat.add_le_add_left (Nat.le_of_ble_eq_true rfl) _) (Nat.add_le_add_left (Nat.le_of_ble_eq_true rfl) _) ?_
  refine j_aload_n B dL_law_1738 2 rfl rfl ?_
  refine j_cVi B (S := Unit) 0 [] (WdC' := fun _ => pgM D cI cZ (fun z => A z ∧ z ≠ o ∧ ∀ k, k < 13 + n → z ≠ ad k) σ ρ 0 md) (fun _ => pgWL D cD cC cI cZ cL A σ n ad o f σ ρ 0 md) (c_X3_logged l D cD cC cI cZ cL (fun z => A z ∧ z ≠ o ∧ ∀ k, k < 13 + n → z ≠ ad k) σ ρ th md) rfl (fun H h => h.2.m) q_714 q_715 q_716 q_3 q_717 hdX3_logged rfl ⟨Nat.le_of_ble_eq_true rfl, Nat.le_of_ble_eq_true rfl⟩ (Nat.le_of_ble_eq_true rfl) dL_law_1739 rfl hcl (fun _ h => h.1) (fun _ h => h.new2) (fun _ h => h.2) (fun H H1 u h h1 hz hk => h.rf h1 hk) (fun r2 _ hp2 => ?_)
  subst hp2
  refine j_icmp_eq B 1760 dL_law_1742 (by decide) (fun _ => ?_) (fun h => absurd rfl h)
  exact kk _ _ _ _ _ _ hI hR rfl
set_option maxHeartbeats 4000000 in
set_option maxRecDepth 100000 in
/-- case 28: certificates -/
theorem law_certificates {p : Program} {l : Launch} {e : Env} {s : State} {m : MethodId} {args : Array Value} {below : List Frame} {meth : Method} {c : Code} {D : va_G} {cD cC cI cZ cL : ClassId} {A : Nat → Prop} {Q : State → Prop} (hl : l.stackTraces = false) (B : pgB p m c s args meth RL cL_law 7 D (pgTys cD cC cI cZ cL) A) {b L0 : Nat} {xs : Nat → Int32} (hX : va_X b L0 xs s s.heap) (hbl : b < s.heap.size) (hbA : ¬ A b) {i : Int32} (g1 : vp_in (i + 1) L0) (g2 : vp_in (i + 2) L0) (g3 : vp_in (i + 3) L0) {σ : pgSt} {n : Nat} {ad : Nat → Nat} {o : Nat} {f : Nat → Int64} {ρ : Nat → Int32} {th : Int32} {md : Nat → Nat} (hI : pgI n σ) (hR : pgRho σ ρ) {cells slots : Nat} (hcl : cells + 5 ≤ room_1.cells ∧ slots + 30 ≤ room_1.slots)
    (kk : ∀ (σ2 : pgSt) (n2 : Nat) (ad2 : Nat → Nat) (f2 : Nat → Int64) (ρ2 : Nat → Int32) (th2 : Int32), pgI n2 σ2 → pgRho σ2 ρ2 → ad2 0 = ad 0 → pgJ p l e room_1 s m args below meth c 7 A (pgWL D cD cC cI cZ cL A σ2 n2 ad2 o f2 σ2 ρ2 th2 md) (cells + 5) (slots + 30) Q 1760 [(4, .int i), (3, .ref o), (2, .ref (md 0)), (1, .ref (ad 0)), (0, .ref b)] []) : pgJ p l e room_1 s m args below meth c 7 A (pgWL D cD cC cI cZ cL A σ n ad o f σ ρ th md) cells slots Q 1747 [(4, .int i), (3, .ref o), (2, .ref (md 0)), (1, .ref (ad 0)), (0, .ref b)] [] := by
  refine j_aload_n B dL_law_1747 3 rfl rfl ?_
  refine j_cVi B (S := Unit) 0 [] (WdC' := fun _ => pgR D cD cC (fun z => (A z ∧ ∀ k, k < 14 → z ≠ md k) ∧ z ≠ o) σ n ad) (fun _ => pgWL D cD cC cI cZ cL A σ n ad o f σ ρ th md) (c_X2_certificates l D cD cC cI cZ cL (fun z => (A z ∧ ∀ k, k < 14 → z ≠ md k) ∧ z ≠ o) σ n ad) rfl (fun H h => h.1.1.x) q_83 q_84 q_85 q_1 q_86 hdX2_certificates rfl ⟨Nat.le_of_ble_eq_true rfl, Nat.le_of_ble_eq_true rfl⟩ (Nat.le_of_ble_eq_true rfl) dL_law_1748 rfl ⟨Nat.le_trans (Nat.add_le_add_left (Nat.le_of_ble_eq_true rfl) _) hcl.1, Nat.le_trans (Nat.add_le_add_left (Nat.le_of_ble_eq_true rfl) _) hcl.2⟩ (fun _ h => h.1.1) (fun _ h => h.new0) (fun _ h => h.1.1) (fun H H1 u h h1 hz hk => h.cls0 h1 hk) (fun r _ hp1 => ?_)
  subst hp1
  refine j_widen (k := cells + 5) (n := slots + 30) (Nat.add_le_add_left (Nat.le_of_ble_eq_true rfl) _) (Nat.add_le_add_left (Nat.le_of_ble_eq_true rfl) _) ?_
  refine j_aload_n B dL_law_1751 2 rfl rfl ?_
  refine j_cVi B (S := Unit) 0 [] (WdC' := fun _ => pgM D cI cZ (fun z => A z ∧ z ≠ o ∧ ∀ k, k < 13 + n → z ≠ ad k) σ ρ 0 md) (fun _ => pgWL D cD cC cI cZ cL A σ n ad o f σ ρ 0 md) (c_X3_certificates l D cD cC cI cZ cL (fun z => A z ∧ z ≠ o ∧ ∀ k, k < 13 + n → z ≠ ad k) σ ρ th md) rfl (fun H h => h.2.m) q_718 q_719 q_720 q_3 q_721 hdX3_certificates rfl ⟨Nat.le_of_ble_eq_true rfl, Nat.le_of_ble_eq_true rfl⟩ (Nat.le_of_ble_eq_true rfl) dL_law_1752 rfl hcl (fun _ h => h.1) (fun _ h => h.new2) (fun _ h => h.2) (fun H H1 u h h1 hz hk => h.rf h1 hk) (fun r2 _ hp2 => ?_)
  subst hp2
  refine j_icmp_eq B 1760 dL_law_1755 (by decide) (fun _ => ?_) (fun h => absurd rfl h)
  exact kk _ _ _ _ _ _ hI hR rfl
