/-- certifies -/
abbrev rm_certifies : Room := { frames := 10, cells := 700, slots := 4200, locals := 172 }
set_option maxHeartbeats 4000000 in
set_option maxRecDepth 100000 in
theorem c_L_certifies (l : Launch) (hl : l.stackTraces = false) (D : va_G) (cD cC cI cZ cL : ClassId) (A : Nat → Prop) (σ φ : pgSt) (n : Nat) (ad ca : Nat → Nat) (f : Nat → Int64) (Bd : Nat) (h : pvI n σ φ (f 0) Bd) (hd : ∀ i, i < n → φ 1 i = pvE σ i) (hB : Bd ≤ 1000) (k : Nat) (hk : k < 8) : Met l yL_certifies (.code yL_certifies cL_certifies 11 (some .boolean) :: pgWd) rm_certifies (pgPc D (pgTys cD cC cI cZ cL) A (pvW D cD cC cI cL A σ n ad φ ca f) [.ref (ad 0), .int (nI k), .ref (ca 0), .ref (ca 1), .ref (ca 5)]) (va_Qi (fun (r : Int32) (u : pgSt × pgSt × (Nat → Int64)) => r = 1 ∧ pvI n u.1 u.2.1 (u.2.2 0) (Bd + 1)) (fun u t9 => (pvW D cD cC cI cL A u.1 n ad u.2.1 ca u.2.2) t9.heap) A) rm_certifies.cells rm_certifies.slots A := by
  refine pv_enter (own := RL) (by decide) rfl (Nat.le_of_ble_eq_true rfl) (fun p e s m args below meth cc9 Q B hret => ?_)
  have hG := h.1
  have hn60 : n ≤ 60 := hG.1
  have hc0 : φ 0 0 = nI n := h.2.1.1
  have hm := h.2.2.2.2.2.2
  have e2 : φ 0 2 = σ 13 4 := h.2.1.2.2.1
  refine j_iconst B (v := 0) dL_certifies_0 (by decide) ?_
  refine j_istore B (L' := [(5, .int 0), (0, .ref (ad 0)), (1, .int (nI k)), (2, .ref (ca 0)), (3, .ref (ca 1)), (4, .ref (ca 5))]) dL_certifies_1 (by decide) rfl ?_
  refine j_lconst B (v := 0) dL_certifies_3 (by decide) ?_
  refine j_lstore B (L' := [(6, .long 0), (5, .int 0), (0, .ref (ad 0)), (1, .int (nI k)), (2, .ref (ca 0)), (3, .ref (ca 1)), (4, .ref (ca 5))]) dL_certifies_4 (by decide) rfl ?_
  refine j_iconst B (v := 0) dL_certifies_6 (by decide) ?_
  refine j_istore B (L' := [(8, .int 0), (6, .long 0), (5, .int 0), (0, .ref (ad 0)), (1, .int (nI k)), (2, .ref (ca 0)), (3, .ref (ca 1)), (4, .ref (ca 5))]) dL_certifies_7 (by decide) rfl ?_
  refine j_loopC (N := n) (X := Int64) (fun i => 0 + 3 * i) (fun i => 0 + 18 * i) (fun i x => ∀ a, a < 64 → (pvB x a ↔ a < i ∧ (σ 2 a = nI k ∧ pgAw σ a))) (fun i x => pvW D cD cC cI cL A σ n ad φ ca f) (fun i x => [(8, .int (nI i)), (6, .long x), (5, .int (nI (pgCeN σ (nI k) i))), (0, .ref (ad 0)), (1, .int (nI k)), (2, .ref (ca 0)), (3, .ref (ca 1)), (4, .ref (ca 5))]) (fun i x hi hv ih => ?_) 0 0 (by omega) (fun a _ => ⟨fun z => absurd z pvB_0, fun z => absurd z.1 (Nat.not_lt_zero a)⟩)
  refine j_iload B dL_certifies_9 0 rfl ?_
  refine j_aload_n B dL_certifies_11 5 rfl rfl ?_
  refine j_iconst B (v := 0) dL_certifies_12 (by decide) ?_
  refine j_pld B (k := 0) (j := 0) (v := nI n) (by omega) rfl (show 0 < 5 by omega) hc0 dL_certifies_13 ?_
  refine j_icmp_ge B 102 dL_certifies_14 (by decide) (fun h1 => ?_) (fun h1 => ?_)
  · have en := pg_eqN hi (by omega) h1
    rw [← en] at hv ⊢
    have hz0 : nI (pgCeN σ (nI k) n) = 0 ↔ pgCeN σ (nI k) n = 0 := pv_0 (by have : pgCeN σ (nI k) n ≤ n := pgN_le _ n; omega)
    have hpos : ∀ a, a < n → (σ 2 a = nI k ∧ pgAw σ a) → pgCeN σ (nI k) n ≠ 0 := fun a ha hz => pv_pos ha (by simpa using hz)
    refine j_aload_n B dL_certifies_102 3 rfl rfl ?_
    refine j_bipush B (v := 12) dL_certifies_103 (by decide) ?_
    refine j_iload_n B dL_certifies_105 4 rfl rfl ?_
    refine j_iconst B (v := 0) dL_certifies_106 (by decide) ?_
    refine j_iconst B (v := 0) dL_certifies_107 (by decide) ?_
    obtain ⟨t1, τ1, et, eτ, hS1, hg1, hA1, hB1, hE1⟩ := pv_certify h hB hk
    have hM := c_L_asks_12 l hl D cD cC cI cZ cL A σ φ n ad ca f hG (nI k) 0 0 hS1
    rw [et, eτ] at hM
    refine j_lawW B 5 [.ref (ad 0), .int 12, .int (nI k), .int 0, .int 0] hM q_305 q_306 q_0 q_307 hdL_asks rfl ⟨Nat.le_of_ble_eq_true rfl, Nat.le_of_ble_eq_true rfl⟩ (Nat.le_of_ble_eq_true rfl) dL_certifies_108 rfl (0 + 3 * n + 2) (0 + 18 * n + 12) ⟨by show _ + 2 ≤ _; omega, by show _ + 12 ≤ _; omega⟩ ⟨(show _ ≤ 700 by omega), (show _ ≤ 4200 by omega)⟩ (fun r2 _ h3 => ?_)
    rw [h3]
    clear hM h3 r2
    refine j_istore B (L' := [(8, .int t1), (6, .long x), (5, .int (nI (pgCeN σ (nI k) n))), (0, .ref (ad 0)), (1, .int (nI k)), (2, .ref (ca 0)), (3, .ref (ca 1)), (4, .ref (ca 5))]) dL_certifies_111 (by decide) rfl ?_
    refine j_iload B dL_certifies_113 0 rfl ?_
    refine j_iload B dL_certifies_115 2 rfl ?_
    refine j_if_ne B 125 dL_certifies_117 (by decide) (fun h4 => ?_) (fun h4 => ?_)
    · refine j_iload B dL_certifies_125 2 rfl ?_
      refine j_icmp_ne B 145 dL_certifies_127 (by decide) (fun h5 => (by clear B hret ih; (try simp only [pgAw]); grind : False).elim) (fun h5 => ?_)
      refine j_aload_n B dL_certifies_130 3 rfl rfl ?_
      refine j_aload_n B dL_certifies_131 5 rfl rfl ?_
      refine j_aload_n B dL_certifies_132 6 rfl rfl ?_
      refine j_lload B dL_certifies_133 1 rfl ?_
      refine j_lawI B 4 [.ref (ad 0), .ref (ca 0), .ref (ca 1), .long x] (c_L_areSame l hl D cD cC cI cZ cL A τ1 φ n ad ca f hg1 (hc0) x (pv_sameM (P := fun a => σ 2 a = nI k ∧ pgAw σ a) hn60 hd hv hE1 (fun _ => rfl))) q_429 q_430 q_0 q_431 hdL_areSame rfl ⟨Nat.le_of_ble_eq_true rfl, Nat.le_of_ble_eq_true rfl⟩ (Nat.le_of_ble_eq_true rfl) dL_certifies_135 rfl (0 + 3 * n + 362) (0 + 18 * n + 2172) ⟨by show _ + 360 ≤ _; omega, by show _ + 2160 ≤ _; omega⟩ ⟨(show _ ≤ 700 by omega), (show _ ≤ 4200 by omega)⟩ (fun r6 _ h7 => ?_)
      subst h7
      refine j_if_eq B 145 dL_certifies_138 (by decide) (fun h8 => absurd h8 (by decide)) (fun h8 => ?_)
      refine j_iconst B (v := 1) dL_certifies_141 (by decide) ?_
      refine j_goto B 146 dL_certifies_142 (by decide) ?_
      refine j_istore B (L' := [(9, .int 1), (8, .int t1), (6, .long x), (5, .int (nI (pgCeN σ (nI k) n))), (0, .ref (ad 0)), (1, .int (nI k)), (2, .ref (ca 0)), (3, .ref (ca 1)), (4, .ref (ca 5))]) dL_certifies_146 (by decide) rfl ?_
      refine j_iconst B (v := 0) dL_certifies_148 (by decide) ?_
      refine j_istore B (L' := [(10, .int 0), (9, .int 1), (8, .int t1), (6, .long x), (5, .int (nI (pgCeN σ (nI k) n))), (0, .ref (ad 0)), (1, .int (nI k)), (2, .ref (ca 0)), (3, .ref (ca 1)), (4, .ref (ca 5))]) dL_certifies_149 (by decide) rfl ?_
      refine j_loopC (N := n) (X := Unit) (fun i2 => (0 + 3 * n + 362) + 1 * i2) (fun i2 => (0 + 18 * n + 2172) + 6 * i2) (fun i2 x2 => True) (fun i2 x2 => pvW D cD cC cI cL A τ1 n ad φ ca f) (fun i2 x2 => [(10, .int (nI i2)), (9, .int 1), (8, .int t1), (6, .long x), (5, .int (nI (pgCeN σ (nI k) n))), (0, .ref (ad 0)), (1, .int (nI k)), (2, .ref (ca 0)), (3, .ref (ca 1)), (4, .ref (ca 5))]) (fun i2 x2 hi2 hv2 ih2 => ?_) 0 () (by omega) (trivial)
      refine j_iload B dL_certifies_151 0 rfl ?_
      refine j_aload_n B dL_certifies_153 7 rfl rfl ?_
      refine j_iconst B (v := 0) dL_certifies_154 (by decide) ?_
      refine j_pld B (k := 0) (j := 0) (v := nI n) (by omega) rfl (show 0 < 5 by omega) hc0 dL_certifies_155 ?_
      refine j_icmp_ge B 201 dL_certifies_156 (by decide) (fun h9 => ?_) (fun h9 => ?_)
      · have en2 := pg_eqN hi2 (by omega) h9
        refine j_aload_n B dL_certifies_201 7 rfl rfl ?_
        refine j_iconst B (v := 2) dL_certifies_202 (by decide) ?_
        refine j_dup2 B dL_certifies_203 rfl rfl ?_
        refine j_pld B (k := 0) (j := 2) (v := φ 0 2) (by omega) rfl (show 2 < 5 by omega) rfl dL_certifies_204 ?_
        refine j_iload B dL_certifies_205 4 rfl ?_
        refine j_if_ne B 214 dL_certifies_207 (by decide) (fun h10 => ?_) (fun h10 => (by clear B hret ih ih2; (try simp only [pgAw]); grind : False).elim)
        refine j_iconst B (v := 1) dL_certifies_214 (by decide) ?_
        refine j_addv B ((φ 0 2) + 1) (rfl) dL_certifies_215 ?_
        refine j_pst B (k := 0) (j := 2) (by omega) rfl (show 2 < 5 by omega) dL_certifies_216 ?_
        refine j_iload B dL_certifies_217 1 rfl ?_
        exact hret 219 _ 1 (τ1, pgU φ 0 2 ((φ 0 2) + 1), f) ((0 + 3 * n + 362) + 1 * i2 + 0) ((0 + 18 * n + 2172) + 6 * i2 + 0) dL_certifies_219 rfl ((show _ ≤ 700 by omega)) ((show _ ≤ 4200 by omega)) ⟨rfl, show pvI n τ1 (pgU φ 0 2 ((φ 0 2) + 1)) (f 0) (Bd + 1) from by clear B hret ih ih2; grind⟩
      · have hlt2 : i2 < n := pg_ltN (by omega) hi2 h9
        refine j_iload B dL_certifies_159 1 rfl ?_
        refine j_if_eq B 201 dL_certifies_161 (by decide) (fun h11 => absurd h11 (by decide)) (fun h11 => ?_)
        refine j_lload B dL_certifies_164 3 rfl ?_
        refine j_iload B dL_certifies_166 0 rfl ?_
        refine j_lshr B dL_certifies_168 ?_
        refine j_lconst B (v := 1) dL_certifies_169 (by decide) ?_
        refine j_land B dL_certifies_170 ?_
        refine j_lconst B (v := 0) dL_certifies_171 (by decide) ?_
        refine j_lcmp B dL_certifies_172 ?_
        refine j_if_eq B 188 dL_certifies_173 (by decide) (fun h12 => ?_) (fun h12 => ?_)
        · refine j_iconst B (v := 1) dL_certifies_188 (by decide) ?_
          refine j_goto B 193 dL_certifies_189 (by decide) ?_
          refine j_istore B (L' := [(9, .int 1), (10, .int (nI i2)), (8, .int t1), (6, .long x), (5, .int (nI (pgCeN σ (nI k) n))), (0, .ref (ad 0)), (1, .int (nI k)), (2, .ref (ca 0)), (3, .ref (ca 1)), (4, .ref (ca 5))]) dL_certifies_193 (by decide) rfl ?_
          refine j_iinc B (v := nI (i2 + 1)) (L' := [(10, .int (nI (i2 + 1))), (9, .int 1), (8, .int t1), (6, .long x), (5, .int (nI (pgCeN σ (nI k) n))), (0, .ref (ad 0)), (1, .int (nI k)), (2, .ref (ca 0)), (3, .ref (ca 1)), (4, .ref (ca 5))]) dL_certifies_195 1 rfl (nI_add _ _) (by decide) rfl ?_
          refine j_goto B 151 dL_certifies_198 (by decide) ?_
          refine j_widen (k := (0 + 3 * n + 362) + 1 * (i2 + 1)) (n := (0 + 18 * n + 2172) + 6 * (i2 + 1)) (by omega) (by omega) ?_
          exact ih2 hlt2 () (trivial)
        · have hon := ((hv i2 (by omega)).mp (Classical.not_not.mp (fun z => h12 ((pv_c0 (by omega)).mpr z)))).2
          have h9 := (hB1 (hpos i2 hlt2 hon)).2.1 i2 hlt2 hon
          refine j_aload_n B dL_certifies_176 5 rfl rfl ?_
          refine j_iload B dL_certifies_177 0 rfl ?_
          refine j_ask B (τ1 9 i2) 1 [.int (nI i2)] (c_X2_certificateOf l hl D cD cC cI cZ cL (pvA A ca) τ1 n ad hg1 (nI i2)) (pv_askD hg1 (by omega) 9) q_280 q_281 q_282 q_1 q_283 hdX2_certificateOf rfl ⟨Nat.le_of_ble_eq_true rfl, Nat.le_of_ble_eq_true rfl⟩ (Nat.le_of_ble_eq_true rfl) dL_certifies_179 rfl ((0 + 3 * n + 362) + 1 * i2 + 1) ((0 + 18 * n + 2172) + 6 * i2 + 6) ⟨by show _ + 1 ≤ _; omega, by show _ + 6 ≤ _; omega⟩ ⟨(show _ ≤ 700 by omega), (show _ ≤ 4200 by omega)⟩ ?_
          refine j_aload_n B dL_certifies_182 7 rfl rfl ?_
          refine j_iconst B (v := 2) dL_certifies_183 (by decide) ?_
          refine j_pld B (k := 0) (j := 2) (v := φ 0 2) (by omega) rfl (show 2 < 5 by omega) rfl dL_certifies_184 ?_
          refine j_icmp_ne B 192 dL_certifies_185 (by decide) (fun h13 => (by clear B hret ih ih2; (try simp only [pgAw]); grind : False).elim) (fun h13 => ?_)
          refine j_iconst B (v := 1) dL_certifies_188 (by decide) ?_
          refine j_goto B 193 dL_certifies_189 (by decide) ?_
          refine j_istore B (L' := [(9, .int 1), (10, .int (nI i2)), (8, .int t1), (6, .long x), (5, .int (nI (pgCeN σ (nI k) n))), (0, .ref (ad 0)), (1, .int (nI k)), (2, .ref (ca 0)), (3, .ref (ca 1)), (4, .ref (ca 5))]) dL_certifies_193 (by decide) rfl ?_
          refine j_iinc B (v := nI (i2 + 1)) (L' := [(10, .int (nI (i2 + 1))), (9, .int 1), (8, .int t1), (6, .long x), (5, .int (nI (pgCeN σ (nI k) n))), (0, .ref (ad 0)), (1, .int (nI k)), (2, .ref (ca 0)), (3, .ref (ca 1)), (4, .ref (ca 5))]) dL_certifies_195 1 rfl (nI_add _ _) (by decide) rfl ?_
          refine j_goto B 151 dL_certifies_198 (by decide) ?_
          refine j_widen (k := (0 + 3 * n + 362) + 1 * (i2 + 1)) (n := (0 + 18 * n + 2172) + 6 * (i2 + 1)) (by omega) (by omega) ?_
          exact ih2 hlt2 () (trivial)
    · refine j_bipush B (v := (-10)) dL_certifies_120 (by decide) ?_
      refine j_goto B 127 dL_certifies_122 (by decide) ?_
      refine j_icmp_ne B 145 dL_certifies_127 (by decide) (fun h14 => (by clear B hret ih; (try simp only [pgAw]); grind : False).elim) (fun h14 => ?_)
      refine j_aload_n B dL_certifies_130 3 rfl rfl ?_
      refine j_aload_n B dL_certifies_131 5 rfl rfl ?_
      refine j_aload_n B dL_certifies_132 6 rfl rfl ?_
      refine j_lload B dL_certifies_133 1 rfl ?_
      refine j_lawI B 4 [.ref (ad 0), .ref (ca 0), .ref (ca 1), .long x] (c_L_areSame l hl D cD cC cI cZ cL A τ1 φ n ad ca f hg1 (hc0) x (pv_sameM (P := fun a => σ 2 a = nI k ∧ pgAw σ a) hn60 hd hv hE1 (fun _ => rfl))) q_429 q_430 q_0 q_431 hdL_areSame rfl ⟨Nat.le_of_ble_eq_true rfl, Nat.le_of_ble_eq_true rfl⟩ (Nat.le_of_ble_eq_true rfl) dL_certifies_135 rfl (0 + 3 * n + 362) (0 + 18 * n + 2172) ⟨by show _ + 360 ≤ _; omega, by show _ + 2160 ≤ _; omega⟩ ⟨(show _ ≤ 700 by omega), (show _ ≤ 4200 by omega)⟩ (fun r15 _ h16 => ?_)
      subst h16
      refine j_if_eq B 145 dL_certifies_138 (by decide) (fun h17 => absurd h17 (by decide)) (fun h17 => ?_)
      refine j_iconst B (v := 1) dL_certifies_141 (by decide) ?_
      refine j_goto B 146 dL_certifies_142 (by decide) ?_
      refine j_istore B (L' := [(9, .int 1), (8, .int t1), (6, .long x), (5, .int (nI (pgCeN σ (nI k) n))), (0, .ref (ad 0)), (1, .int (nI k)), (2, .ref (ca 0)), (3, .ref (ca 1)), (4, .ref (ca 5))]) dL_certifies_146 (by decide) rfl ?_
      refine j_iconst B (v := 0) dL_certifies_148 (by decide) ?_
      refine j_istore B (L' := [(10, .int 0), (9, .int 1), (8, .int t1), (6, .long x), (5, .int (nI (pgCeN σ (nI k) n))), (0, .ref (ad 0)), (1, .int (nI k)), (2, .ref (ca 0)), (3, .ref (ca 1)), (4, .ref (ca 5))]) dL_certifies_149 (by decide) rfl ?_
      refine j_loopC (N := n) (X := Unit) (fun i2 => (0 + 3 * n + 362) + 1 * i2) (fun i2 => (0 + 18 * n + 2172) + 6 * i2) (fun i2 x2 => True) (fun i2 x2 => pvW D cD cC cI cL A τ1 n ad φ ca f) (fun i2 x2 => [(10, .int (nI i2)), (9, .int 1), (8, .int t1), (6, .long x), (5, .int (nI (pgCeN σ (nI k) n))), (0, .ref (ad 0)), (1, .int (nI k)), (2, .ref (ca 0)), (3, .ref (ca 1)), (4, .ref (ca 5))]) (fun i2 x2 hi2 hv2 ih2 => ?_) 0 () (by omega) (trivial)
      refine j_iload B dL_certifies_151 0 rfl ?_
      refine j_aload_n B dL_certifies_153 7 rfl rfl ?_
      refine j_iconst B (v := 0) dL_certifies_154 (by decide) ?_
      refine j_pld B (k := 0) (j := 0) (v := nI n) (by omega) rfl (show 0 < 5 by omega) hc0 dL_certifies_155 ?_
      refine j_icmp_ge B 201 dL_certifies_156 (by decide) (fun h18 => ?_) (fun h18 => ?_)
      · have en2 := pg_eqN hi2 (by omega) h18
        refine j_aload_n B dL_certifies_201 7 rfl rfl ?_
        refine j_iconst B (v := 2) dL_certifies_202 (by decide) ?_
        refine j_dup2 B dL_certifies_203 rfl rfl ?_
        refine j_pld B (k := 0) (j := 2) (v := φ 0 2) (by omega) rfl (show 2 < 5 by omega) rfl dL_certifies_204 ?_
        refine j_iload B dL_certifies_205 4 rfl ?_
        refine j_if_ne B 214 dL_certifies_207 (by decide) (fun h19 => (by clear B hret ih ih2; (try simp only [pgAw]); grind : False).elim) (fun h19 => ?_)
        refine j_iconst B (v := 0) dL_certifies_210 (by decide) ?_
        refine j_goto B 215 dL_certifies_211 (by decide) ?_
        refine j_addv B ((φ 0 2) + 0) (rfl) dL_certifies_215 ?_
        refine j_pst B (k := 0) (j := 2) (by omega) rfl (show 2 < 5 by omega) dL_certifies_216 ?_
        refine j_iload B dL_certifies_217 1 rfl ?_
        exact hret 219 _ 1 (τ1, pgU φ 0 2 ((φ 0 2) + 0), f) ((0 + 3 * n + 362) + 1 * i2 + 0) ((0 + 18 * n + 2172) + 6 * i2 + 0) dL_certifies_219 rfl ((show _ ≤ 700 by omega)) ((show _ ≤ 4200 by omega)) ⟨rfl, show pvI n τ1 (pgU φ 0 2 ((φ 0 2) + 0)) (f 0) (Bd + 1) from by clear B hret ih ih2; grind⟩
      · have hlt2 : i2 < n := pg_ltN (by omega) hi2 h18
        refine j_iload B dL_certifies_159 1 rfl ?_
        refine j_if_eq B 201 dL_certifies_161 (by decide) (fun h20 => absurd h20 (by decide)) (fun h20 => ?_)
        refine j_lload B dL_certifies_164 3 rfl ?_
        refine j_iload B dL_certifies_166 0 rfl ?_
        refine j_lshr B dL_certifies_168 ?_
        refine j_lconst B (v := 1) dL_certifies_169 (by decide) ?_
        refine j_land B dL_certifies_170 ?_
        refine j_lconst B (v := 0) dL_certifies_171 (by decide) ?_
        refine j_lcmp B dL_certifies_172 ?_
        refine j_if_eq B 188 dL_certifies_173 (by decide) (fun h21 => ?_) (fun h21 => ?_)
        · refine j_iconst B (v := 1) dL_certifies_188 (by decide) ?_
          refine j_goto B 193 dL_certifies_189 (by decide) ?_
          refine j_istore B (L' := [(9, .int 1), (10, .int (nI i2)), (8, .int t1), (6, .long x), (5, .int (nI (pgCeN σ (nI k) n))), (0, .ref (ad 0)), (1, .int (nI k)), (2, .ref (ca 0)), (3, .ref (ca 1)), (4, .ref (ca 5))]) dL_certifies_193 (by decide) rfl ?_
          refine j_iinc B (v := nI (i2 + 1)) (L' := [(10, .int (nI (i2 + 1))), (9, .int 1), (8, .int t1), (6, .long x), (5, .int (nI (pgCeN σ (nI k) n))), (0, .ref (ad 0)), (1, .int (nI k)), (2, .ref (ca 0)), (3, .ref (ca 1)), (4, .ref (ca 5))]) dL_certifies_195 1 rfl (nI_add _ _) (by decide) rfl ?_
          refine j_goto B 151 dL_certifies_198 (by decide) ?_
          refine j_widen (k := (0 + 3 * n + 362) + 1 * (i2 + 1)) (n := (0 + 18 * n + 2172) + 6 * (i2 + 1)) (by omega) (by omega) ?_
          exact ih2 hlt2 () (trivial)
        · have hon := ((hv i2 (by omega)).mp (Classical.not_not.mp (fun z => h21 ((pv_c0 (by omega)).mpr z)))).2
          have h9 := (hB1 (hpos i2 hlt2 hon)).2.1 i2 hlt2 hon
          refine j_aload_n B dL_certifies_176 5 rfl rfl ?_
          refine j_iload B dL_certifies_177 0 rfl ?_
          refine j_ask B (τ1 9 i2) 1 [.int (nI i2)] (c_X2_certificateOf l hl D cD cC cI cZ cL (pvA A ca) τ1 n ad hg1 (nI i2)) (pv_askD hg1 (by omega) 9) q_280 q_281 q_282 q_1 q_283 hdX2_certificateOf rfl ⟨Nat.le_of_ble_eq_true rfl, Nat.le_of_ble_eq_true rfl⟩ (Nat.le_of_ble_eq_true rfl) dL_certifies_179 rfl ((0 + 3 * n + 362) + 1 * i2 + 1) ((0 + 18 * n + 2172) + 6 * i2 + 6) ⟨by show _ + 1 ≤ _; omega, by show _ + 6 ≤ _; omega⟩ ⟨(show _ ≤ 700 by omega), (show _ ≤ 4200 by omega)⟩ ?_
          refine j_aload_n B dL_certifies_182 7 rfl rfl ?_
          refine j_iconst B (v := 2) dL_certifies_183 (by decide) ?_
          refine j_pld B (k := 0) (j := 2) (v := φ 0 2) (by omega) rfl (show 2 < 5 by omega) rfl dL_certifies_184 ?_
          refine j_icmp_ne B 192 dL_certifies_185 (by decide) (fun h22 => (by clear B hret ih ih2; (try simp only [pgAw]); grind : False).elim) (fun h22 => ?_)
          refine j_iconst B (v := 1) dL_certifies_188 (by decide) ?_
          refine j_goto B 193 dL_certifies_189 (by decide) ?_
          refine j_istore B (L' := [(9, .int 1), (10, .int (nI i2)), (8, .int t1), (6, .long x), (5, .int (nI (pgCeN σ (nI k) n))), (0, .ref (ad 0)), (1, .int (nI k)), (2, .ref (ca 0)), (3, .ref (ca 1)), (4, .ref (ca 5))]) dL_certifies_193 (by decide) rfl ?_
          refine j_iinc B (v := nI (i2 + 1)) (L' := [(10, .int (nI (i2 + 1))), (9, .int 1), (8, .int t1), (6, .long x), (5, .int (nI (pgCeN σ (nI k) n))), (0, .ref (ad 0)), (1, .int (nI k)), (2, .ref (ca 0)), (3, .ref (ca 1)), (4, .ref (ca 5))]) dL_certifies_195 1 rfl (nI_add _ _) (by decide) rfl ?_
          refine j_goto B 151 dL_certifies_198 (by decide) ?_
          refine j_widen (k := (0 + 3 * n + 362) + 1 * (i2 + 1)) (n := (0 + 18 * n + 2172) + 6 * (i2 + 1)) (by omega) (by omega) ?_
          exact ih2 hlt2 () (trivial)
  · have hlt : i < n := pg_ltN (by omega) hi h1
    have hmi := hm i (by omega)
    refine j_aload_n B dL_certifies_17 3 rfl rfl ?_
    refine j_iload B dL_certifies_18 0 rfl ?_
    refine j_ask B (σ 2 i) 1 [.int (nI i)] (c_X2_keeperOf l hl D cD cC cI cZ cL (pvA A ca) σ n ad hG (nI i)) (pv_askD hG (by omega) 2) q_241 q_242 q_243 q_1 q_244 hdX2_keeperOf rfl ⟨Nat.le_of_ble_eq_true rfl, Nat.le_of_ble_eq_true rfl⟩ (Nat.le_of_ble_eq_true rfl) dL_certifies_20 rfl (0 + 3 * i + 1) (0 + 18 * i + 6) ⟨by show _ + 1 ≤ _; omega, by show _ + 6 ≤ _; omega⟩ ⟨(show _ ≤ 700 by omega), (show _ ≤ 4200 by omega)⟩ ?_
    refine j_iload_n B dL_certifies_23 4 rfl rfl ?_
    have kj23 : ∀ v24 : Int32, (v24 = 1 ∧ (σ 2 i = nI k ∧ pgAw σ i) ∨ v24 = 0 ∧ ¬ (σ 2 i = nI k ∧ pgAw σ i)) → pgJ p l e rm_certifies s m args below meth cc9 11 A (pvW D cD cC cI cL A σ n ad φ ca f) (0 + 3 * i + 3) (0 + 18 * i + 18) Q 61 [(8, .int (nI i)), (6, .long x), (5, .int (nI (pgCeN σ (nI k) i))), (0, .ref (ad 0)), (1, .int (nI k)), (2, .ref (ca 0)), (3, .ref (ca 1)), (4, .ref (ca 5))] (.int v24 :: []) := by
      intro v24 hv25
      rcases hv25 with ⟨rfl, h26⟩ | ⟨rfl, h26⟩
      · refine j_istore B (L' := [(9, .int 1), (8, .int (nI i)), (6, .long x), (5, .int (nI (pgCeN σ (nI k) i))), (0, .ref (ad 0)), (1, .int (nI k)), (2, .ref (ca 0)), (3, .ref (ca 1)), (4, .ref (ca 5))]) dL_certifies_61 (by decide) rfl ?_
        refine j_iload B dL_certifies_63 3 rfl ?_
        refine j_iload B dL_certifies_65 0 rfl ?_
        refine j_if_eq B 74 dL_certifies_67 (by decide) (fun h27 => absurd h27 (by decide)) (fun h27 => ?_)
        refine j_iconst B (v := 1) dL_certifies_70 (by decide) ?_
        refine j_goto B 75 dL_certifies_71 (by decide) ?_
        refine j_addv B (nI (pgCeN σ (nI k) (i + 1))) (pv_ceY h26) dL_certifies_75 ?_
        refine j_istore B (L' := [(5, .int (nI (pgCeN σ (nI k) (i + 1)))), (9, .int 1), (8, .int (nI i)), (6, .long x), (0, .ref (ad 0)), (1, .int (nI k)), (2, .ref (ca 0)), (3, .ref (ca 1)), (4, .ref (ca 5))]) dL_certifies_76 (by decide) rfl ?_
        refine j_lload B dL_certifies_78 3 rfl ?_
        refine j_iload B dL_certifies_80 1 rfl ?_
        refine j_if_eq B 92 dL_certifies_82 (by decide) (fun h28 => absurd h28 (by decide)) (fun h28 => ?_)
        refine j_lconst B (v := 1) dL_certifies_85 (by decide) ?_
        refine j_iload B dL_certifies_86 2 rfl ?_
        refine j_lshl B dL_certifies_88 ?_
        refine j_goto B 93 dL_certifies_89 (by decide) ?_
        refine j_lor B dL_certifies_93 ?_
        refine j_lstore B (L' := [(6, .long (x ||| ((1 : Int64) <<< ((nI i).toInt64 &&& 63)))), (5, .int (nI (pgCeN σ (nI k) (i + 1)))), (9, .int 1), (8, .int (nI i)), (0, .ref (ad 0)), (1, .int (nI k)), (2, .ref (ca 0)), (3, .ref (ca 1)), (4, .ref (ca 5))]) dL_certifies_94 (by decide) rfl ?_
        refine j_iinc B (v := nI (i + 1)) (L' := [(8, .int (nI (i + 1))), (6, .long (x ||| ((1 : Int64) <<< ((nI i).toInt64 &&& 63)))), (5, .int (nI (pgCeN σ (nI k) (i + 1)))), (9, .int 1), (0, .ref (ad 0)), (1, .int (nI k)), (2, .ref (ca 0)), (3, .ref (ca 1)), (4, .ref (ca 5))]) dL_certifies_96 3 rfl (nI_add _ _) (by decide) rfl ?_
        refine j_goto B 9 dL_certifies_99 (by decide) ?_
        refine j_locals (L' := [(8, .int (nI (i + 1))), (6, .long (x ||| ((1 : Int64) <<< ((nI i).toInt64 &&& 63)))), (5, .int (nI (pgCeN σ (nI k) (i + 1)))), (0, .ref (ad 0)), (1, .int (nI k)), (2, .ref (ca 0)), (3, .ref (ca 1)), (4, .ref (ca 5))]) [0, 1, 2, 4, 5, 6, 7, 8] rfl ?_
        refine j_widen (k := 0 + 3 * (i + 1)) (n := 0 + 18 * (i + 1)) (by omega) (by omega) ?_
        exact ih hlt _ (pv_movY (P := fun a => σ 2 a = nI k ∧ pgAw σ a) (by omega) hv h26)
      · refine j_istore B (L' := [(9, .int 0), (8, .int (nI i)), (6, .long x), (5, .int (nI (pgCeN σ (nI k) i))), (0, .ref (ad 0)), (1, .int (nI k)), (2, .ref (ca 0)), (3, .ref (ca 1)), (4, .ref (ca 5))]) dL_certifies_61 (by decide) rfl ?_
        refine j_iload B dL_certifies_63 3 rfl ?_
        refine j_iload B dL_certifies_65 0 rfl ?_
        refine j_if_eq B 74 dL_certifies_67 (by decide) (fun h29 => ?_) (fun h29 => absurd h29 (by decide))
        refine j_iconst B (v := 0) dL_certifies_74 (by decide) ?_
        refine j_addv B (nI (pgCeN σ (nI k) (i + 1))) (pv_ceN h26) dL_certifies_75 ?_
        refine j_istore B (L' := [(5, .int (nI (pgCeN σ (nI k) (i + 1)))), (9, .int 0), (8, .int (nI i)), (6, .long x), (0, .ref (ad 0)), (1, .int (nI k)), (2, .ref (ca 0)), (3, .ref (ca 1)), (4, .ref (ca 5))]) dL_certifies_76 (by decide) rfl ?_
        refine j_lload B dL_certifies_78 3 rfl ?_
        refine j_iload B dL_certifies_80 1 rfl ?_
        refine j_if_eq B 92 dL_certifies_82 (by decide) (fun h30 => ?_) (fun h30 => absurd h30 (by decide))
        refine j_lconst B (v := 0) dL_certifies_92 (by decide) ?_
        refine j_lor B dL_certifies_93 ?_
        refine j_lstore B (L' := [(6, .long (x ||| 0)), (5, .int (nI (pgCeN σ (nI k) (i + 1)))), (9, .int 0), (8, .int (nI i)), (0, .ref (ad 0)), (1, .int (nI k)), (2, .ref (ca 0)), (3, .ref (ca 1)), (4, .ref (ca 5))]) dL_certifies_94 (by decide) rfl ?_
        refine j_iinc B (v := nI (i + 1)) (L' := [(8, .int (nI (i + 1))), (6, .long (x ||| 0)), (5, .int (nI (pgCeN σ (nI k) (i + 1)))), (9, .int 0), (0, .ref (ad 0)), (1, .int (nI k)), (2, .ref (ca 0)), (3, .ref (ca 1)), (4, .ref (ca 5))]) dL_certifies_96 3 rfl (nI_add _ _) (by decide) rfl ?_
        refine j_goto B 9 dL_certifies_99 (by decide) ?_
        refine j_locals (L' := [(8, .int (nI (i + 1))), (6, .long (x ||| 0)), (5, .int (nI (pgCeN σ (nI k) (i + 1)))), (0, .ref (ad 0)), (1, .int (nI k)), (2, .ref (ca 0)), (3, .ref (ca 1)), (4, .ref (ca 5))]) [0, 1, 2, 4, 5, 6, 7, 8] rfl ?_
        refine j_widen (k := 0 + 3 * (i + 1)) (n := 0 + 18 * (i + 1)) (by omega) (by omega) ?_
        exact ih hlt _ (pv_movN (P := fun a => σ 2 a = nI k ∧ pgAw σ a) hv h26)
    refine j_icmp_ne B 60 dL_certifies_24 (by decide) (fun h31 => ?_) (fun h31 => ?_)
    · refine j_iconst B (v := 0) dL_certifies_60 (by decide) ?_
      refine j_widen (k := (0 + 3 * i + 3)) (n := (0 + 18 * i + 18)) (by omega) (by omega) ?_
      exact kj23 0 (Or.inr ⟨rfl, by clear B hret ih kj23; (try simp only [pgAw]); grind⟩)
    · refine j_aload_n B dL_certifies_27 3 rfl rfl ?_
      refine j_iload B dL_certifies_28 0 rfl ?_
      obtain ⟨r32, e33, h34⟩ := pv_done hG (by omega)
      refine j_ask B r32 1 [.int (nI i)] (c_X2_isDone l hl D cD cC cI cZ cL (pvA A ca) σ n ad hG (nI i)) e33 q_272 q_273 q_274 q_1 q_275 hdX2_isDone rfl ⟨Nat.le_of_ble_eq_true rfl, Nat.le_of_ble_eq_true rfl⟩ (Nat.le_of_ble_eq_true rfl) dL_certifies_30 rfl (0 + 3 * i + 2) (0 + 18 * i + 12) ⟨by show _ + 1 ≤ _; omega, by show _ + 6 ≤ _; omega⟩ ⟨(show _ ≤ 700 by omega), (show _ ≤ 4200 by omega)⟩ ?_
      rcases h34 with ⟨rfl, h35⟩ | ⟨rfl, h35⟩
      · refine j_if_eq B 60 dL_certifies_33 (by decide) (fun h36 => absurd h36 (by decide)) (fun h36 => ?_)
        refine j_aload B dL_certifies_36 7 rfl ?_
        refine j_iload B dL_certifies_38 0 rfl ?_
        refine j_lawI B 2 [.ref (ca 5), .int (nI i)] (c_L_isMissing l hl D cD cC cI cZ cL A σ φ n ad ca f i (by omega)) q_290 q_291 q_0 q_292 hdL_isMissing rfl ⟨Nat.le_of_ble_eq_true rfl, Nat.le_of_ble_eq_true rfl⟩ (Nat.le_of_ble_eq_true rfl) dL_certifies_40 rfl (0 + 3 * i + 2) (0 + 18 * i + 12) ⟨by show _ + 0 ≤ _; omega, by show _ + 0 ≤ _; omega⟩ ⟨(show _ ≤ 700 by omega), (show _ ≤ 4200 by omega)⟩ (fun r37 _ h38 => ?_)
        rcases h38 with ⟨rfl, h39⟩ | ⟨rfl, h39⟩
        · refine j_if_ne B 60 dL_certifies_43 (by decide) (fun h40 => ?_) (fun h40 => absurd h40 (by decide))
          refine j_iconst B (v := 0) dL_certifies_60 (by decide) ?_
          refine j_widen (k := (0 + 3 * i + 3)) (n := (0 + 18 * i + 18)) (by omega) (by omega) ?_
          exact kj23 0 (Or.inr ⟨rfl, by clear B hret ih kj23; (try simp only [pgAw]); grind⟩)
        · refine j_if_ne B 60 dL_certifies_43 (by decide) (fun h41 => absurd h41 (by decide)) (fun h41 => ?_)
          refine j_aload_n B dL_certifies_46 3 rfl rfl ?_
          refine j_iload B dL_certifies_47 0 rfl ?_
          refine j_ask B (σ 9 i) 1 [.int (nI i)] (c_X2_certificateOf l hl D cD cC cI cZ cL (pvA A ca) σ n ad hG (nI i)) (pv_askD hG (by omega) 9) q_280 q_281 q_282 q_1 q_283 hdX2_certificateOf rfl ⟨Nat.le_of_ble_eq_true rfl, Nat.le_of_ble_eq_true rfl⟩ (Nat.le_of_ble_eq_true rfl) dL_certifies_49 rfl (0 + 3 * i + 3) (0 + 18 * i + 18) ⟨by show _ + 1 ≤ _; omega, by show _ + 6 ≤ _; omega⟩ ⟨(show _ ≤ 700 by omega), (show _ ≤ 4200 by omega)⟩ ?_
          refine j_iconst B (v := (-1)) dL_certifies_52 (by decide) ?_
          refine j_icmp_ne B 60 dL_certifies_53 (by decide) (fun h42 => ?_) (fun h42 => ?_)
          · refine j_iconst B (v := 0) dL_certifies_60 (by decide) ?_
            exact kj23 0 (Or.inr ⟨rfl, by clear B hret ih kj23; (try simp only [pgAw]); grind⟩)
          · refine j_iconst B (v := 1) dL_certifies_56 (by decide) ?_
            refine j_goto B 61 dL_certifies_57 (by decide) ?_
            exact kj23 1 (Or.inl ⟨rfl, by clear B hret ih kj23; (try simp only [pgAw]); grind⟩)
      · refine j_if_eq B 60 dL_certifies_33 (by decide) (fun h43 => ?_) (fun h43 => absurd h43 (by decide))
        refine j_iconst B (v := 0) dL_certifies_60 (by decide) ?_
        refine j_widen (k := (0 + 3 * i + 3)) (n := (0 + 18 * i + 18)) (by omega) (by omega) ?_
        exact kj23 0 (Or.inr ⟨rfl, by clear B hret ih kj23; (try simp only [pgAw]); grind⟩)
