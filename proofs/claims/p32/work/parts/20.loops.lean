/-- countIn -/
abbrev rm_countIn : Room := { frames := 8, cells := 60, slots := 360, locals := 125 }
set_option maxHeartbeats 4000000 in
set_option maxRecDepth 100000 in
theorem c_L_countIn (l : Launch) (hl : l.stackTraces = false) (D : va_G) (cD cC cI cZ cL : ClassId) (A : Nat → Prop) (σ φ : pgSt) (n : Nat) (ad ca : Nat → Nat) (f : Nat → Int64) (hG : pgI n σ) (hc0 : φ 0 0 = nI n) (cr : Int32) : Met l yL_countIn (.code yL_countIn cL_countIn 5 (some .int) :: pgWd) rm_countIn (pgPc D (pgTys cD cC cI cZ cL) A (pvW D cD cC cI cL A σ n ad φ ca f) [.ref (ad 0), .ref (ca 0), .int cr]) (va_Qi (fun (r : Int32) (u : Unit) => r = pgCnt σ n cr) (fun u t9 => (pvW D cD cC cI cL A σ n ad φ ca f) t9.heap) A) rm_countIn.cells rm_countIn.slots A := by
  refine pv_enter (own := RL) (by decide) rfl (Nat.le_of_ble_eq_true rfl) (fun p e s m args below meth cc9 Q B hret => ?_)
  have hn60 : n ≤ 60 := hG.1
  refine j_iconst B (v := 0) dL_countIn_0 (by decide) ?_
  refine j_istore_n B (L' := [(3, .int 0), (0, .ref (ad 0)), (1, .ref (ca 0)), (2, .int cr)]) dL_countIn_1 rfl (by decide) rfl ?_
  refine j_iconst B (v := 0) dL_countIn_2 (by decide) ?_
  refine j_istore B (L' := [(4, .int 0), (3, .int 0), (0, .ref (ad 0)), (1, .ref (ca 0)), (2, .int cr)]) dL_countIn_3 (by decide) rfl ?_
  refine j_loopC (N := n) (X := Int32) (fun i => 0 + 1 * i) (fun i => 0 + 6 * i) (fun i x => x = nI (pgN (fun j => decide (σ 3 j = cr)) i)) (fun i x => pvW D cD cC cI cL A σ n ad φ ca f) (fun i x => [(4, .int (nI i)), (3, .int x), (0, .ref (ad 0)), (1, .ref (ca 0)), (2, .int cr)]) (fun i x hi hv ih => ?_) 0 0 (by omega) (nI_0.symm)
  refine j_iload B dL_countIn_5 0 rfl ?_
  refine j_aload_n B dL_countIn_7 3 rfl rfl ?_
  refine j_iconst B (v := 0) dL_countIn_8 (by decide) ?_
  refine j_pld B (k := 0) (j := 0) (v := nI n) (by omega) rfl (show 0 < 5 by omega) hc0 dL_countIn_9 ?_
  refine j_icmp_ge B 37 dL_countIn_10 (by decide) (fun h1 => ?_) (fun h1 => ?_)
  · have en := pg_eqN hi (by omega) h1
    refine j_iload_n B dL_countIn_37 1 rfl rfl ?_
    exact hret 38 _ x () (0 + 1 * i) (0 + 6 * i) dL_countIn_38 rfl (show _ ≤ 60 by omega) (show _ ≤ 360 by omega) (by rw [hv, en])
  · have hlt : i < n := pg_ltN (by omega) hi h1
    refine j_iload_n B dL_countIn_13 1 rfl rfl ?_
    refine j_aload_n B dL_countIn_14 2 rfl rfl ?_
    refine j_iload B dL_countIn_15 0 rfl ?_
    refine j_ask B (σ 3 i) 1 [.int (nI i)] (c_X2_crateOf l hl D cD cC cI cZ cL (pvA A ca) σ n ad hG (nI i)) (pv_askD hG (by omega) 3) q_254 q_255 q_256 q_1 q_257 hdX2_crateOf rfl ⟨Nat.le_of_ble_eq_true rfl, Nat.le_of_ble_eq_true rfl⟩ (Nat.le_of_ble_eq_true rfl) dL_countIn_17 rfl (0 + 1 * i + 1) (0 + 6 * i + 6) ⟨by show _ + 1 ≤ _; omega, by show _ + 6 ≤ _; omega⟩ ⟨(show _ ≤ 60 by omega), (show _ ≤ 360 by omega)⟩ ?_
    refine j_iload_n B dL_countIn_20 4 rfl rfl ?_
    refine j_icmp_ne B 28 dL_countIn_21 (by decide) (fun h2 => ?_) (fun h2 => ?_)
    · refine j_iconst B (v := 0) dL_countIn_28 (by decide) ?_
      refine j_addv B (nI (pgN (fun j => decide (σ 3 j = cr)) (i + 1))) (by rw [hv]; simp only [pgN]; rw [if_neg (by simpa using h2)]; exact (nI_add _ 0)) dL_countIn_29 ?_
      refine j_istore_n B (L' := [(3, .int (nI (pgN (fun j => decide (σ 3 j = cr)) (i + 1)))), (4, .int (nI i)), (0, .ref (ad 0)), (1, .ref (ca 0)), (2, .int cr)]) dL_countIn_30 rfl (by decide) rfl ?_
      refine j_iinc B (v := nI (i + 1)) (L' := [(4, .int (nI (i + 1))), (3, .int (nI (pgN (fun j => decide (σ 3 j = cr)) (i + 1)))), (0, .ref (ad 0)), (1, .ref (ca 0)), (2, .int cr)]) dL_countIn_31 1 rfl (nI_add _ _) (by decide) rfl ?_
      refine j_goto B 5 dL_countIn_34 (by decide) ?_
      refine j_widen (k := 0 + 1 * (i + 1)) (n := 0 + 6 * (i + 1)) (by omega) (by omega) ?_
      exact ih hlt _ rfl
    · refine j_iconst B (v := 1) dL_countIn_24 (by decide) ?_
      refine j_goto B 29 dL_countIn_25 (by decide) ?_
      refine j_addv B (nI (pgN (fun j => decide (σ 3 j = cr)) (i + 1))) (by rw [hv]; simp only [pgN]; rw [if_pos (by simpa using h2)]; exact nI_1 _) dL_countIn_29 ?_
      refine j_istore_n B (L' := [(3, .int (nI (pgN (fun j => decide (σ 3 j = cr)) (i + 1)))), (4, .int (nI i)), (0, .ref (ad 0)), (1, .ref (ca 0)), (2, .int cr)]) dL_countIn_30 rfl (by decide) rfl ?_
      refine j_iinc B (v := nI (i + 1)) (L' := [(4, .int (nI (i + 1))), (3, .int (nI (pgN (fun j => decide (σ 3 j = cr)) (i + 1)))), (0, .ref (ad 0)), (1, .ref (ca 0)), (2, .int cr)]) dL_countIn_31 1 rfl (nI_add _ _) (by decide) rfl ?_
      refine j_goto B 5 dL_countIn_34 (by decide) ?_
      refine j_widen (k := 0 + 1 * (i + 1)) (n := 0 + 6 * (i + 1)) (by omega) (by omega) ?_
      exact ih hlt _ rfl
/-- areSame, where they are -/
abbrev rm_areSame : Room := { frames := 9, cells := 360, slots := 2160, locals := 146 }
set_option maxHeartbeats 4000000 in
set_option maxRecDepth 100000 in
theorem c_L_areSame (l : Launch) (hl : l.stackTraces = false) (D : va_G) (cD cC cI cZ cL : ClassId) (A : Nat → Prop) (σ φ : pgSt) (n : Nat) (ad ca : Nat → Nat) (f : Nat → Int64) (hG : pgI n σ) (hc0 : φ 0 0 = nI n) (but : Int64) (hs : ∀ j, j < n → pvB but j ∨ pvE σ j = φ 1 j) : Met l yL_areSame (.code yL_areSame cL_areSame 7 (some .boolean) :: pgWd) rm_areSame (pgPc D (pgTys cD cC cI cZ cL) A (pvW D cD cC cI cL A σ n ad φ ca f) [.ref (ad 0), .ref (ca 0), .ref (ca 1), .long but]) (va_Qi (fun (r : Int32) (u : Unit) => r = 1) (fun u t9 => (pvW D cD cC cI cL A σ n ad φ ca f) t9.heap) A) rm_areSame.cells rm_areSame.slots A := by
  refine pv_enter (own := RL) (by decide) rfl (Nat.le_of_ble_eq_true rfl) (fun p e s m args below meth cc9 Q B hret => ?_)
  have hn60 : n ≤ 60 := hG.1
  refine j_iconst B (v := 1) dL_areSame_0 (by decide) ?_
  refine j_istore B (L' := [(5, .int 1), (0, .ref (ad 0)), (1, .ref (ca 0)), (2, .ref (ca 1)), (3, .long but)]) dL_areSame_1 (by decide) rfl ?_
  refine j_iconst B (v := 0) dL_areSame_3 (by decide) ?_
  refine j_istore B (L' := [(6, .int 0), (5, .int 1), (0, .ref (ad 0)), (1, .ref (ca 0)), (2, .ref (ca 1)), (3, .long but)]) dL_areSame_4 (by decide) rfl ?_
  refine j_loopC (N := n) (X := Unit) (fun i => 0 + 6 * i) (fun i => 0 + 36 * i) (fun i x => True) (fun i x => pvW D cD cC cI cL A σ n ad φ ca f) (fun i x => [(6, .int (nI i)), (5, .int 1), (0, .ref (ad 0)), (1, .ref (ca 0)), (2, .ref (ca 1)), (3, .long but)]) (fun i x hi hv ih => ?_) 0 () (by omega) (trivial)
  refine j_iload B dL_areSame_6 0 rfl ?_
  refine j_aload_n B dL_areSame_8 3 rfl rfl ?_
  refine j_iconst B (v := 0) dL_areSame_9 (by decide) ?_
  refine j_pld B (k := 0) (j := 0) (v := nI n) (by omega) rfl (show 0 < 5 by omega) hc0 dL_areSame_10 ?_
  refine j_icmp_ge B 56 dL_areSame_11 (by decide) (fun h1 => ?_) (fun h1 => ?_)
  · have en := pg_eqN hi (by omega) h1
    refine j_iload B dL_areSame_56 1 rfl ?_
    exact hret 58 _ 1 () (0 + 6 * i) (0 + 36 * i) dL_areSame_58 rfl (show _ ≤ 360 by omega) (show _ ≤ 2160 by omega) rfl
  · have hlt : i < n := pg_ltN (by omega) hi h1
    refine j_iload B dL_areSame_14 1 rfl ?_
    refine j_if_eq B 56 dL_areSame_16 (by decide) (fun h2 => absurd h2 (by decide)) (fun h2 => ?_)
    refine j_lload_n B dL_areSame_19 5 rfl rfl ?_
    refine j_iload B dL_areSame_20 0 rfl ?_
    refine j_lshr B dL_areSame_22 ?_
    refine j_lconst B (v := 1) dL_areSame_23 (by decide) ?_
    refine j_land B dL_areSame_24 ?_
    refine j_lconst B (v := 1) dL_areSame_25 (by decide) ?_
    refine j_lcmp B dL_areSame_26 ?_
    refine j_if_eq B 43 dL_areSame_27 (by decide) (fun h3 => ?_) (fun h3 => ?_)
    · refine j_iconst B (v := 1) dL_areSame_43 (by decide) ?_
      refine j_goto B 48 dL_areSame_44 (by decide) ?_
      refine j_istore B (L' := [(5, .int 1), (6, .int (nI i)), (0, .ref (ad 0)), (1, .ref (ca 0)), (2, .ref (ca 1)), (3, .long but)]) dL_areSame_48 (by decide) rfl ?_
      refine j_iinc B (v := nI (i + 1)) (L' := [(6, .int (nI (i + 1))), (5, .int 1), (0, .ref (ad 0)), (1, .ref (ca 0)), (2, .ref (ca 1)), (3, .long but)]) dL_areSame_50 1 rfl (nI_add _ _) (by decide) rfl ?_
      refine j_goto B 6 dL_areSame_53 (by decide) ?_
      refine j_widen (k := 0 + 6 * (i + 1)) (n := 0 + 36 * (i + 1)) (by omega) (by omega) ?_
      exact ih hlt () trivial
    · refine j_aload_n B dL_areSame_30 2 rfl rfl ?_
      refine j_iload B dL_areSame_31 0 rfl ?_
      refine j_lawI B 2 [.ref (ad 0), .int (nI i)] (c_L_disk l hl D cD cC cI cZ cL A σ φ n ad ca f hG i (by omega)) q_265 q_266 q_0 q_267 hdL_disk rfl ⟨Nat.le_of_ble_eq_true rfl, Nat.le_of_ble_eq_true rfl⟩ (Nat.le_of_ble_eq_true rfl) dL_areSame_33 rfl (0 + 6 * i + 6) (0 + 36 * i + 36) ⟨by show _ + 6 ≤ _; omega, by show _ + 36 ≤ _; omega⟩ ⟨(show _ ≤ 360 by omega), (show _ ≤ 2160 by omega)⟩ (fun r4 _ h5 => ?_)
      subst h5
      refine j_aload_n B dL_areSame_36 4 rfl rfl ?_
      refine j_iload B dL_areSame_37 0 rfl ?_
      refine j_pld B (k := 1) (j := i) (v := φ 1 i) (by omega) rfl (show i < 60 by omega) rfl dL_areSame_39 ?_
      refine j_icmp_ne B 47 dL_areSame_40 (by decide) (fun h6 => absurd (((hs i hlt).resolve_left (fun z => absurd ((pv_c1 (by omega)).mpr z) h3))) h6) (fun h6 => ?_)
      refine j_iconst B (v := 1) dL_areSame_43 (by decide) ?_
      refine j_goto B 48 dL_areSame_44 (by decide) ?_
      refine j_istore B (L' := [(5, .int 1), (6, .int (nI i)), (0, .ref (ad 0)), (1, .ref (ca 0)), (2, .ref (ca 1)), (3, .long but)]) dL_areSame_48 (by decide) rfl ?_
      refine j_iinc B (v := nI (i + 1)) (L' := [(6, .int (nI (i + 1))), (5, .int 1), (0, .ref (ad 0)), (1, .ref (ca 0)), (2, .ref (ca 1)), (3, .long but)]) dL_areSame_50 1 rfl (nI_add _ _) (by decide) rfl ?_
      refine j_goto B 6 dL_areSame_53 (by decide) ?_
      refine j_widen (k := 0 + 6 * (i + 1)) (n := 0 + 36 * (i + 1)) (by omega) (by omega) ?_
      exact ih hlt () trivial
/-- all -/
abbrev rm_all : Room := { frames := 9, cells := 360, slots := 2160, locals := 146 }
set_option maxHeartbeats 4000000 in
set_option maxRecDepth 100000 in
theorem c_L_all (l : Launch) (hl : l.stackTraces = false) (D : va_G) (cD cC cI cZ cL : ClassId) (A : Nat → Prop) (σ φ : pgSt) (n : Nat) (ad ca : Nat → Nat) (f : Nat → Int64) (hG : pgI n σ) (hc0 : φ 0 0 = nI n) : Met l yL_all (.code yL_all cL_all 4 none :: pgWd) rm_all (pgPc D (pgTys cD cC cI cZ cL) A (pvW D cD cC cI cL A σ n ad φ ca f) [.ref (ad 0), .ref (ca 0), .ref (ca 1)]) (va_Qv (fun (_ : Unit) => True) (fun _ t9 => (pvW D cD cC cI cL A σ n ad (pvFill σ φ n) ca f) t9.heap) A) rm_all.cells rm_all.slots A := by
  refine pg_enter (own := RL) (by decide) rfl (Nat.le_of_ble_eq_true rfl) (fun p e s m below meth cc9 B hr hnm => ?_)
  have hn60 : n ≤ 60 := hG.1
  refine j_iconst B (v := 0) dL_all_0 (by decide) ?_
  refine j_istore_n B (L' := [(3, .int 0), (0, .ref (ad 0)), (1, .ref (ca 0)), (2, .ref (ca 1))]) dL_all_1 rfl (by decide) rfl ?_
  refine j_world (Wd' := pvW D cD cC cI cL A σ n ad (pvFill σ φ 0) ca f) (fun H h => h.eqF pvFill_0) ?_
  refine j_loopC (N := n) (X := Unit) (fun i => 0 + 6 * i) (fun i => 0 + 36 * i) (fun i x => True) (fun i x => pvW D cD cC cI cL A σ n ad (pvFill σ φ i) ca f) (fun i x => [(3, .int (nI i)), (0, .ref (ad 0)), (1, .ref (ca 0)), (2, .ref (ca 1))]) (fun i x hi hv ih => ?_) 0 () (by omega) (trivial)
  refine j_iload_n B dL_all_2 0 rfl rfl ?_
  refine j_aload_n B dL_all_3 2 rfl rfl ?_
  refine j_iconst B (v := 0) dL_all_4 (by decide) ?_
  refine j_pld B (k := 0) (j := 0) (v := nI n) (by omega) rfl (show 0 < 5 by omega) ((pvFill_o (by omega)).trans hc0) dL_all_5 ?_
  refine j_icmp_ge B 23 dL_all_6 (by decide) (fun h1 => ?_) (fun h1 => ?_)
  · have en := pg_eqN hi (by omega) h1
    exact j_vret B hr dL_all_23 (show _ ≤ 360 by omega) (show _ ≤ 2160 by omega) () trivial (fun H h => en ▸ h)
  · have hlt : i < n := pg_ltN (by omega) hi h1
    refine j_aload_n B dL_all_9 3 rfl rfl ?_
    refine j_iload_n B dL_all_10 0 rfl rfl ?_
    refine j_aload_n B dL_all_11 1 rfl rfl ?_
    refine j_iload_n B dL_all_12 0 rfl rfl ?_
    refine j_lawI B 2 [.ref (ad 0), .int (nI i)] (c_L_disk l hl D cD cC cI cZ cL A σ (pvFill σ φ i) n ad ca f hG i (by omega)) q_265 q_266 q_0 q_267 hdL_disk rfl ⟨Nat.le_of_ble_eq_true rfl, Nat.le_of_ble_eq_true rfl⟩ (Nat.le_of_ble_eq_true rfl) dL_all_13 rfl (0 + 6 * i + 6) (0 + 36 * i + 36) ⟨by show _ + 6 ≤ _; omega, by show _ + 36 ≤ _; omega⟩ ⟨(show _ ≤ 360 by omega), (show _ ≤ 2160 by omega)⟩ (fun r2 _ h3 => ?_)
    subst h3
    refine j_pst B (k := 1) (j := i) (by omega) rfl (show i < 60 by omega) dL_all_16 ?_
    refine j_iinc B (v := nI (i + 1)) (L' := [(3, .int (nI (i + 1))), (0, .ref (ad 0)), (1, .ref (ca 0)), (2, .ref (ca 1))]) dL_all_17 0 rfl (nI_add _ _) (by decide) rfl ?_
    refine j_goto B 2 dL_all_20 (by decide) ?_
    refine j_world (Wd' := pvW D cD cC cI cL A σ n ad (pvFill σ φ (i + 1)) ca f) (fun H h => h.eqF pvFill_s) ?_
    refine j_widen (k := 0 + 6 * (i + 1)) (n := 0 + 36 * (i + 1)) (by omega) (by omega) ?_
    exact ih hlt () trivial
