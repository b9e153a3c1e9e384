theorem pv_99 {y : Nat} (h : y < 100) : 0 ≤ nI y ∧ nI y ≤ 99 := ⟨nI_pos' (by omega), nI_le (b := 99) (by omega) (by omega)⟩
theorem pv_cnt3 {n : Nat} {σ τ : pgSt} {v : Int32} (h : ∀ i, τ 3 i = σ 3 i) : pgCnt τ n v = pgCnt σ n v := by
  unfold pgCnt
  simp only [h]
theorem pv_movY {x : Int64} {i : Nat} {P : Nat → Prop} (hi : i < 64) (hv : ∀ a, a < 64 → (pvB x a ↔ a < i ∧ P a)) (h : P i) : ∀ a, a < 64 → (pvB (x ||| ((1 : Int64) <<< ((nI i).toInt64 &&& 63))) a ↔ a < i + 1 ∧ P a) := by
  intro a ha
  rw [pvB_or, pvB_1 hi, hv a ha]
  constructor
  · rintro (z | rfl)
    · exact ⟨by omega, z.2⟩
    · exact ⟨by omega, h⟩
  · intro z
    by_cases e : a = i
    · exact Or.inr e
    · exact Or.inl ⟨by omega, z.2⟩
theorem pv_movN {x : Int64} {i : Nat} {P : Nat → Prop} (hv : ∀ a, a < 64 → (pvB x a ↔ a < i ∧ P a)) (h : ¬ P i) : ∀ a, a < 64 → (pvB (x ||| 0) a ↔ a < i + 1 ∧ P a) := by
  intro a ha
  rw [pvB_or, hv a ha]
  constructor
  · rintro (z | z)
    · exact ⟨by omega, z.2⟩
    · exact absurd z pvB_0
  · intro z
    refine Or.inl ⟨?_, z.2⟩
    by_cases e : a = i
    · exact absurd (e ▸ z.2) h
    · omega
theorem pv_sameM {n : Nat} {σ τ φ ψ : pgSt} {x : Int64} {P : Nat → Prop} (hn : n ≤ 60) (hd : ∀ i, i < n → φ 1 i = pvE σ i) (hv : ∀ a, a < 64 → (pvB x a ↔ a < n ∧ P a)) (hE : ∀ i, ¬ P i → pvE τ i = pvE σ i) (hp : ∀ i, ψ 1 i = φ 1 i) : ∀ i, i < n → pvB x i ∨ pvE τ i = ψ 1 i := fun i hi => by
  by_cases e : P i
  · exact Or.inl ((hv i (by omega)).mpr ⟨hi, e⟩)
  · exact Or.inr (by rw [hE i e, hp, hd i hi])
theorem pv_ceY {σ : pgSt} {k : Int32} {i : Nat} (h : σ 2 i = k ∧ pgAw σ i) : nI (pgCeN σ k i) + 1 = nI (pgCeN σ k (i + 1)) := by
  unfold pgCeN
  rw [nI_1]
  show _ = nI (pgN _ i + _)
  rw [if_pos (by simpa using h)]
theorem pv_ceN {σ : pgSt} {k : Int32} {i : Nat} (h : ¬ (σ 2 i = k ∧ pgAw σ i)) : nI (pgCeN σ k i) + 0 = nI (pgCeN σ k (i + 1)) := by
  unfold pgCeN
  show _ = nI (pgN _ i + _)
  rw [if_neg (by simpa using h)]
  exact nI_add _ 0
theorem pv_pos {P : Nat → Bool} {i : Nat} : ∀ {n : Nat}, i < n → P i = true → pgN P n ≠ 0
  | 0, h, _ => by omega
  | n + 1, h, hp => by
    unfold pgN
    by_cases e : i = n
    · subst e
      rw [if_pos hp]
      omega
    · have := pv_pos (n := n) (by omega) hp
      omega
/-- crates_9 -/
abbrev rm_crates_9 : Room := { frames := 10, cells := 425, slots := 2550, locals := 172 }
set_option maxHeartbeats 4000000 in
set_option maxRecDepth 100000 in
theorem c_L_crates_9 (l : Launch) (hl : l.stackTraces = false) (D : va_G) (cD cC cI cZ cL : ClassId) (A : Nat → Prop) (σ φ : pgSt) (n : Nat) (ad ca : Nat → Nat) (f : Nat → Int64) (Bd : Nat) (h : pvI n σ φ (f 0) Bd) (hd : ∀ i, i < n → φ 1 i = pvE σ i) (c : Nat) (hc : c < 4) (x : Int32) : Met l yL_crates (.code yL_crates cL_crates 17 (some .boolean) :: pgWd) rm_crates_9 (pgPc D (pgTys cD cC cI cZ cL) A (pvW D cD cC cI cL A σ n ad φ ca f) [.ref (ad 0), .int 9, .int (nI c), .int x, .ref (ca 0), .ref (ca 1), .ref (ca 3)]) (va_Qi (fun (r : Int32) (u : pgSt × pgSt × (Nat → Int64)) => r = 1 ∧ pvI n u.1 u.2.1 (u.2.2 0) (Bd + 1)) (fun u t9 => (pvW D cD cC cI cL A u.1 n ad u.2.1 ca u.2.2) t9.heap) A) rm_crates_9.cells rm_crates_9.slots A := by
  refine pv_enter (own := RL) (by decide) rfl (Nat.le_of_ble_eq_true rfl) (fun p e s m args below meth cc9 Q B hret => ?_)
  have hG := h.1
  have hn60 : n ≤ 60 := hG.1
  have hc0 : φ 0 0 = nI n := h.2.1.1
  have hm := h.2.2.2.2.2.2
  have hc10 : c < 10 := by omega
  have hse := pv_se hG hc10
  have e3 : φ 0 3 = σ 13 1 := h.2.1.2.2.2.1
  have hl1 : σ 13 1 < 100 ↔ ¬ 100 ≤ φ 0 3 := by rw [e3]; exact Int32.not_le.symm
  have h31 : φ 0 3 + 1 - 1 = σ 13 1 := by rw [e3]; exact Int32.add_sub_cancel _ _
  refine j_aload_n B dL_crates_0 0 rfl rfl ?_
  refine j_iload_n B dL_crates_1 2 rfl rfl ?_
  refine j_ask B (σ 11 c) 1 [.int (nI c)] (c_X2_sealOf l hl D cD cC cI cZ cL (pvA A ca) σ n ad hG (nI c)) (pv_askC (by omega) 11) q_296 q_297 q_298 q_1 q_299 hdX2_sealOf rfl ⟨Nat.le_of_ble_eq_true rfl, Nat.le_of_ble_eq_true rfl⟩ (Nat.le_of_ble_eq_true rfl) dL_crates_2 rfl (1) (6) ⟨Nat.le_of_ble_eq_true rfl, Nat.le_of_ble_eq_true rfl⟩ ⟨Nat.le_of_ble_eq_true rfl, Nat.le_of_ble_eq_true rfl⟩ ?_
  refine j_istore B (L' := [(7, .int (σ 11 c)), (0, .ref (ad 0)), (1, .int 9), (2, .int (nI c)), (3, .int x), (4, .ref (ca 0)), (5, .ref (ca 1)), (6, .ref (ca 3))]) dL_crates_5 (by decide) rfl ?_
  refine j_aload_n B dL_crates_7 1 rfl rfl ?_
  refine j_iload_n B dL_crates_8 3 rfl rfl ?_
  refine j_ask B (σ 10 c) 1 [.int (nI c)] (c_X2_crateKeeper l hl D cD cC cI cZ cL (pvA A ca) σ n ad hG (nI c)) (pv_askC (by omega) 10) q_435 q_436 q_437 q_1 q_438 hdX2_crateKeeper rfl ⟨Nat.le_of_ble_eq_true rfl, Nat.le_of_ble_eq_true rfl⟩ (Nat.le_of_ble_eq_true rfl) dL_crates_9 rfl (2) (12) ⟨Nat.le_of_ble_eq_true rfl, Nat.le_of_ble_eq_true rfl⟩ ⟨Nat.le_of_ble_eq_true rfl, Nat.le_of_ble_eq_true rfl⟩ ?_
  refine j_istore B (L' := [(8, .int (σ 10 c)), (7, .int (σ 11 c)), (0, .ref (ad 0)), (1, .int 9), (2, .int (nI c)), (3, .int x), (4, .ref (ca 0)), (5, .ref (ca 1)), (6, .ref (ca 3))]) dL_crates_12 (by decide) rfl ?_
  refine j_aload_n B dL_crates_14 2 rfl rfl ?_
  refine j_aload B dL_crates_15 6 rfl ?_
  refine j_iload_n B dL_crates_17 4 rfl rfl ?_
  refine j_lawI B 3 [.ref (ad 0), .ref (ca 0), .int (nI c)] (c_L_countIn l hl D cD cC cI cZ cL A σ φ n ad ca f hG (hc0) (nI c)) q_439 q_440 q_0 q_441 hdL_countIn rfl ⟨Nat.le_of_ble_eq_true rfl, Nat.le_of_ble_eq_true rfl⟩ (Nat.le_of_ble_eq_true rfl) dL_crates_18 rfl (62) (372) ⟨Nat.le_of_ble_eq_true rfl, Nat.le_of_ble_eq_true rfl⟩ ⟨Nat.le_of_ble_eq_true rfl, Nat.le_of_ble_eq_true rfl⟩ (fun r1 _ h2 => ?_)
  subst h2
  refine j_istore B (L' := [(9, .int (pgCnt σ n (nI c))), (8, .int (σ 10 c)), (7, .int (σ 11 c)), (0, .ref (ad 0)), (1, .int 9), (2, .int (nI c)), (3, .int x), (4, .ref (ca 0)), (5, .ref (ca 1)), (6, .ref (ca 3))]) dL_crates_21 (by decide) rfl ?_
  refine j_iload_n B dL_crates_23 4 rfl rfl ?_
  refine j_bipush B (v := 9) dL_crates_24 (by decide) ?_
  refine j_icmp_ne B 156 dL_crates_26 (by decide) (fun h3 => absurd h3 (by decide)) (fun h3 => ?_)
  refine j_iload B dL_crates_29 2 rfl ?_
  refine j_iconst B (v := (-1)) dL_crates_31 (by decide) ?_
  have kj4 : ∀ v5 : Int32, (v5 = 1 ∧ (σ 11 c = -1 ∧ σ 13 1 < 100) ∨ v5 = 0 ∧ ¬ (σ 11 c = -1 ∧ σ 13 1 < 100)) → pgJ p l e rm_crates_9 s m args below meth cc9 17 A (pvW D cD cC cI cL A σ n ad φ ca f) (62) (372) Q 49 [(9, .int (pgCnt σ n (nI c))), (8, .int (σ 10 c)), (7, .int (σ 11 c)), (0, .ref (ad 0)), (1, .int 9), (2, .int (nI c)), (3, .int x), (4, .ref (ca 0)), (5, .ref (ca 1)), (6, .ref (ca 3))] (.int v5 :: []) := by
    intro v5 hv6
    rcases hv6 with ⟨rfl, h7⟩ | ⟨rfl, h7⟩
    · refine j_istore B (L' := [(10, .int 1), (9, .int (pgCnt σ n (nI c))), (8, .int (σ 10 c)), (7, .int (σ 11 c)), (0, .ref (ad 0)), (1, .int 9), (2, .int (nI c)), (3, .int x), (4, .ref (ca 0)), (5, .ref (ca 1)), (6, .ref (ca 3))]) dL_crates_49 (by decide) rfl ?_
      refine j_aload_n B dL_crates_51 4 rfl rfl ?_
      refine j_bipush B (v := 9) dL_crates_52 (by decide) ?_
      refine j_iload_n B dL_crates_54 6 rfl rfl ?_
      refine j_iconst B (v := 0) dL_crates_55 (by decide) ?_
      refine j_iconst B (v := 0) dL_crates_56 (by decide) ?_
      obtain ⟨t1, τ1, et, eτ, hS1, hg1, hE1, hA1, hB1⟩ := pv_seal h hc10
      have hM := c_L_asks_9 l hl D cD cC cI cZ cL A σ φ n ad ca f hG (nI c) 0 0 hS1
      rw [et, eτ] at hM
      refine j_lawW B 5 [.ref (ad 0), .int 9, .int (nI c), .int 0, .int 0] hM q_305 q_306 q_0 q_307 hdL_asks rfl ⟨Nat.le_of_ble_eq_true rfl, Nat.le_of_ble_eq_true rfl⟩ (Nat.le_of_ble_eq_true rfl) dL_crates_57 rfl (64) (384) ⟨Nat.le_of_ble_eq_true rfl, Nat.le_of_ble_eq_true rfl⟩ ⟨Nat.le_of_ble_eq_true rfl, Nat.le_of_ble_eq_true rfl⟩ (fun r8 _ h9 => ?_)
      rw [h9]
      clear hM h9 r8
      refine j_istore B (L' := [(11, .int t1), (10, .int 1), (9, .int (pgCnt σ n (nI c))), (8, .int (σ 10 c)), (7, .int (σ 11 c)), (0, .ref (ad 0)), (1, .int 9), (2, .int (nI c)), (3, .int x), (4, .ref (ca 0)), (5, .ref (ca 1)), (6, .ref (ca 3))]) dL_crates_60 (by decide) rfl ?_
      refine j_aload B dL_crates_62 11 rfl ?_
      refine j_iload_n B dL_crates_64 7 rfl rfl ?_
      refine j_iload B dL_crates_65 1 rfl ?_
      refine j_if_eq B 75 dL_crates_67 (by decide) (fun h10 => absurd h10 (by decide)) (fun h10 => ?_)
      refine j_iload B dL_crates_70 2 rfl ?_
      refine j_goto B 79 dL_crates_72 (by decide) ?_
      refine j_pst B (k := 3) (j := c) (by omega) rfl (show c < 10 by omega) dL_crates_79 ?_
      refine j_aload B dL_crates_80 9 rfl ?_
      refine j_iconst B (v := 3) dL_crates_82 (by decide) ?_
      refine j_dup2 B dL_crates_83 rfl rfl ?_
      refine j_pld B (k := 0) (j := 3) (v := φ 0 3) (by omega) rfl (show 3 < 5 by omega) (by simp [pgU]) dL_crates_84 ?_
      refine j_iload B dL_crates_85 1 rfl ?_
      refine j_if_eq B 94 dL_crates_87 (by decide) (fun h11 => absurd h11 (by decide)) (fun h11 => ?_)
      refine j_iconst B (v := 1) dL_crates_90 (by decide) ?_
      refine j_goto B 95 dL_crates_91 (by decide) ?_
      refine j_addv B ((φ 0 3) + 1) (rfl) dL_crates_95 ?_
      refine j_pst B (k := 0) (j := 3) (by omega) rfl (show 3 < 5 by omega) dL_crates_96 ?_
      refine j_iload B dL_crates_97 0 rfl ?_
      refine j_iload B dL_crates_99 1 rfl ?_
      refine j_if_eq B 113 dL_crates_101 (by decide) (fun h12 => absurd h12 (by decide)) (fun h12 => ?_)
      refine j_aload B dL_crates_104 9 rfl ?_
      refine j_iconst B (v := 3) dL_crates_106 (by decide) ?_
      refine j_pld B (k := 0) (j := 3) (v := ((φ 0 3) + 1)) (by omega) rfl (show 3 < 5 by omega) (by simp [pgU]) dL_crates_107 ?_
      refine j_iconst B (v := 1) dL_crates_108 (by decide) ?_
      refine j_subv B (((φ 0 3) + 1) - 1) (rfl) dL_crates_109 ?_
      refine j_goto B 115 dL_crates_110 (by decide) ?_
      refine j_icmp_ne B 154 dL_crates_115 (by decide) (fun h13 => (by clear B hret; grind : False).elim) (fun h13 => ?_)
      refine j_aload_n B dL_crates_118 5 rfl rfl ?_
      refine j_iload_n B dL_crates_119 7 rfl rfl ?_
      refine j_ask B (τ1 11 c) 1 [.int (nI c)] (c_X2_sealOf l hl D cD cC cI cZ cL (pvA A ca) τ1 n ad hg1 (nI c)) (pv_askC (by omega) 11) q_296 q_297 q_298 q_1 q_299 hdX2_sealOf rfl ⟨Nat.le_of_ble_eq_true rfl, Nat.le_of_ble_eq_true rfl⟩ (Nat.le_of_ble_eq_true rfl) dL_crates_120 rfl (65) (390) ⟨Nat.le_of_ble_eq_true rfl, Nat.le_of_ble_eq_true rfl⟩ ⟨Nat.le_of_ble_eq_true rfl, Nat.le_of_ble_eq_true rfl⟩ ?_
      refine j_iload B dL_crates_123 1 rfl ?_
      refine j_if_eq B 133 dL_crates_125 (by decide) (fun h14 => absurd h14 (by decide)) (fun h14 => ?_)
      refine j_iload B dL_crates_128 0 rfl ?_
      refine j_goto B 135 dL_crates_130 (by decide) ?_
      refine j_icmp_ne B 154 dL_crates_135 (by decide) (fun h15 => (by clear B hret; grind : False).elim) (fun h15 => ?_)
      refine j_aload_n B dL_crates_138 5 rfl rfl ?_
      refine j_aload B dL_crates_139 9 rfl ?_
      refine j_aload B dL_crates_141 10 rfl ?_
      refine j_lconst B (v := 0) dL_crates_143 (by decide) ?_
      refine j_lawI B 4 [.ref (ad 0), .ref (ca 0), .ref (ca 1), .long 0] (c_L_areSame l hl D cD cC cI cZ cL A τ1 (pgU (pgU φ 3 c (pgCnt σ n (nI c))) 0 3 ((φ 0 3) + 1)) n ad ca f hg1 (by simpa [pgU] using hc0) 0 (pv_same0 hd (hE1) (fun _ => (by simp [pgU])))) q_429 q_430 q_0 q_431 hdL_areSame rfl ⟨Nat.le_of_ble_eq_true rfl, Nat.le_of_ble_eq_true rfl⟩ (Nat.le_of_ble_eq_true rfl) dL_crates_144 rfl (425) (2550) ⟨Nat.le_of_ble_eq_true rfl, Nat.le_of_ble_eq_true rfl⟩ ⟨Nat.le_of_ble_eq_true rfl, Nat.le_of_ble_eq_true rfl⟩ (fun r16 _ h17 => ?_)
      subst h17
      refine j_if_eq B 154 dL_crates_147 (by decide) (fun h18 => absurd h18 (by decide)) (fun h18 => ?_)
      refine j_iconst B (v := 1) dL_crates_150 (by decide) ?_
      refine j_goto B 155 dL_crates_151 (by decide) ?_
      exact hret 155 _ 1 (τ1, pgU (pgU φ 3 c (pgCnt σ n (nI c))) 0 3 ((φ 0 3) + 1), f) (425) (2550) dL_crates_155 rfl (Nat.le_of_ble_eq_true rfl) (Nat.le_of_ble_eq_true rfl) ⟨rfl, show pvI n τ1 (pgU (pgU φ 3 c (pgCnt σ n (nI c))) 0 3 ((φ 0 3) + 1)) (f 0) (Bd + 1) from pvI_le (Bd := Bd) (by clear B hret; grind) (by omega)⟩
    · refine j_istore B (L' := [(10, .int 0), (9, .int (pgCnt σ n (nI c))), (8, .int (σ 10 c)), (7, .int (σ 11 c)), (0, .ref (ad 0)), (1, .int 9), (2, .int (nI c)), (3, .int x), (4, .ref (ca 0)), (5, .ref (ca 1)), (6, .ref (ca 3))]) dL_crates_49 (by decide) rfl ?_
      refine j_aload_n B dL_crates_51 4 rfl rfl ?_
      refine j_bipush B (v := 9) dL_crates_52 (by decide) ?_
      refine j_iload_n B dL_crates_54 6 rfl rfl ?_
      refine j_iconst B (v := 0) dL_crates_55 (by decide) ?_
      refine j_iconst B (v := 0) dL_crates_56 (by decide) ?_
      obtain ⟨t1, τ1, et, eτ, hS1, hg1, hE1, hA1, hB1⟩ := pv_seal h hc10
      have hM := c_L_asks_9 l hl D cD cC cI cZ cL A σ φ n ad ca f hG (nI c) 0 0 hS1
      rw [et, eτ] at hM
      refine j_lawW B 5 [.ref (ad 0), .int 9, .int (nI c), .int 0, .int 0] hM q_305 q_306 q_0 q_307 hdL_asks rfl ⟨Nat.le_of_ble_eq_true rfl, Nat.le_of_ble_eq_true rfl⟩ (Nat.le_of_ble_eq_true rfl) dL_crates_57 rfl (64) (384) ⟨Nat.le_of_ble_eq_true rfl, Nat.le_of_ble_eq_true rfl⟩ ⟨Nat.le_of_ble_eq_true rfl, Nat.le_of_ble_eq_true rfl⟩ (fun r19 _ h20 => ?_)
      rw [h20]
      clear hM h20 r19
      refine j_istore B (L' := [(11, .int t1), (10, .int 0), (9, .int (pgCnt σ n (nI c))), (8, .int (σ 10 c)), (7, .int (σ 11 c)), (0, .ref (ad 0)), (1, .int 9), (2, .int (nI c)), (3, .int x), (4, .ref (ca 0)), (5, .ref (ca 1)), (6, .ref (ca 3))]) dL_crates_60 (by decide) rfl ?_
      refine j_aload B dL_crates_62 11 rfl ?_
      refine j_iload_n B dL_crates_64 7 rfl rfl ?_
      refine j_iload B dL_crates_65 1 rfl ?_
      refine j_if_eq B 75 dL_crates_67 (by decide) (fun h21 => ?_) (fun h21 => absurd h21 (by decide))
      refine j_aload B dL_crates_75 11 rfl ?_
      refine j_iload_n B dL_crates_77 7 rfl rfl ?_
      refine j_pld B (k := 3) (j := c) (v := φ 3 c) (by omega) rfl (show c < 10 by omega) rfl dL_crates_78 ?_
      refine j_pst B (k := 3) (j := c) (by omega) rfl (show c < 10 by omega) dL_crates_79 ?_
      refine j_aload B dL_crates_80 9 rfl ?_
      refine j_iconst B (v := 3) dL_crates_82 (by decide) ?_
      refine j_dup2 B dL_crates_83 rfl rfl ?_
      refine j_pld B (k := 0) (j := 3) (v := φ 0 3) (by omega) rfl (show 3 < 5 by omega) (by simp [pgU]) dL_crates_84 ?_
      refine j_iload B dL_crates_85 1 rfl ?_
      refine j_if_eq B 94 dL_crates_87 (by decide) (fun h22 => ?_) (fun h22 => absurd h22 (by decide))
      refine j_iconst B (v := 0) dL_crates_94 (by decide) ?_
      refine j_addv B ((φ 0 3) + 0) (rfl) dL_crates_95 ?_
      refine j_pst B (k := 0) (j := 3) (by omega) rfl (show 3 < 5 by omega) dL_crates_96 ?_
      refine j_iload B dL_crates_97 0 rfl ?_
      refine j_iload B dL_crates_99 1 rfl ?_
      refine j_if_eq B 113 dL_crates_101 (by decide) (fun h23 => ?_) (fun h23 => absurd h23 (by decide))
      refine j_bipush B (v := (-8)) dL_crates_113 (by decide) ?_
      refine j_icmp_ne B 154 dL_crates_115 (by decide) (fun h24 => (by clear B hret; grind : False).elim) (fun h24 => ?_)
      refine j_aload_n B dL_crates_118 5 rfl rfl ?_
      refine j_iload_n B dL_crates_119 7 rfl rfl ?_
      refine j_ask B (τ1 11 c) 1 [.int (nI c)] (c_X2_sealOf l hl D cD cC cI cZ cL (pvA A ca) τ1 n ad hg1 (nI c)) (pv_askC (by omega) 11) q_296 q_297 q_298 q_1 q_299 hdX2_sealOf rfl ⟨Nat.le_of_ble_eq_true rfl, Nat.le_of_ble_eq_true rfl⟩ (Nat.le_of_ble_eq_true rfl) dL_crates_120 rfl (65) (390) ⟨Nat.le_of_ble_eq_true rfl, Nat.le_of_ble_eq_true rfl⟩ ⟨Nat.le_of_ble_eq_true rfl, Nat.le_of_ble_eq_true rfl⟩ ?_
      refine j_iload B dL_crates_123 1 rfl ?_
      refine j_if_eq B 133 dL_crates_125 (by decide) (fun h25 => ?_) (fun h25 => absurd h25 (by decide))
      refine j_iload B dL_crates_133 4 rfl ?_
      refine j_icmp_ne B 154 dL_crates_135 (by decide) (fun h26 => (by clear B hret; grind : False).elim) (fun h26 => ?_)
      refine j_aload_n B dL_crates_138 5 rfl rfl ?_
      refine j_aload B dL_crates_139 9 rfl ?_
      refine j_aload B dL_crates_141 10 rfl ?_
      refine j_lconst B (v := 0) dL_crates_143 (by decide) ?_
      refine j_lawI B 4 [.ref (ad 0), .ref (ca 0), .ref (ca 1), .long 0] (c_L_areSame l hl D cD cC cI cZ cL A τ1 (pgU (pgU φ 3 c (φ 3 c)) 0 3 ((φ 0 3) + 0)) n ad ca f hg1 (by simpa [pgU] using hc0) 0 (pv_same0 hd (hE1) (fun _ => (by simp [pgU])))) q_429 q_430 q_0 q_431 hdL_areSame rfl ⟨Nat.le_of_ble_eq_true rfl, Nat.le_of_ble_eq_true rfl⟩ (Nat.le_of_ble_eq_true rfl) dL_crates_144 rfl (425) (2550) ⟨Nat.le_of_ble_eq_true rfl, Nat.le_of_ble_eq_true rfl⟩ ⟨Nat.le_of_ble_eq_true rfl, Nat.le_of_ble_eq_true rfl⟩ (fun r27 _ h28 => ?_)
      subst h28
      refine j_if_eq B 154 dL_crates_147 (by decide) (fun h29 => absurd h29 (by decide)) (fun h29 => ?_)
      refine j_iconst B (v := 1) dL_crates_150 (by decide) ?_
      refine j_goto B 155 dL_crates_151 (by decide) ?_
      exact hret 155 _ 1 (τ1, pgU (pgU φ 3 c (φ 3 c)) 0 3 ((φ 0 3) + 0), f) (425) (2550) dL_crates_155 rfl (Nat.le_of_ble_eq_true rfl) (Nat.le_of_ble_eq_true rfl) ⟨rfl, show pvI n τ1 (pgU (pgU φ 3 c (φ 3 c)) 0 3 ((φ 0 3) + 0)) (f 0) (Bd + 1) from pvI_le (Bd := Bd) (by clear B hret; grind) (by omega)⟩
  refine j_icmp_ne B 48 dL_crates_32 (by decide) (fun h30 => ?_) (fun h30 => ?_)
  · refine j_iconst B (v := 0) dL_crates_48 (by decide) ?_
    exact kj4 0 (Or.inr ⟨rfl, by clear B hret kj4; grind⟩)
  · refine j_aload B dL_crates_35 7 rfl ?_
    refine j_iconst B (v := 3) dL_crates_37 (by decide) ?_
    refine j_pld B (k := 0) (j := 3) (v := φ 0 3) (by omega) rfl (show 3 < 5 by omega) rfl dL_crates_38 ?_
    refine j_bipush B (v := 100) dL_crates_39 (by decide) ?_
    refine j_icmp_ge B 48 dL_crates_41 (by decide) (fun h31 => ?_) (fun h31 => ?_)
    · refine j_iconst B (v := 0) dL_crates_48 (by decide) ?_
      exact kj4 0 (Or.inr ⟨rfl, by clear B hret kj4; grind⟩)
    · refine j_iconst B (v := 1) dL_crates_44 (by decide) ?_
      refine j_goto B 49 dL_crates_45 (by decide) ?_
      exact kj4 1 (Or.inl ⟨rfl, by clear B hret kj4; grind⟩)
/-- crates_10 -/
abbrev rm_crates_10 : Room := { frames := 10, cells := 425, slots := 2550, locals := 172 }
set_option maxHeartbeats 4000000 in
set_option maxRecDepth 100000 in
theorem c_L_crates_10 (l : Launch) (hl : l.stackTraces = false) (D : va_G) (cD cC cI cZ cL : ClassId) (A : Nat → Prop) (σ φ : pgSt) (n : Nat) (ad ca : Nat → Nat) (f : Nat → Int64) (Bd : Nat) (h : pvI n σ φ (f 0) Bd) (hd : ∀ i, i < n → φ 1 i = pvE σ i) (c : Nat) (hc : c < 4) (x0 : Nat) (hx : x0 < 2 ^ 31) : Met l yL_crates (.code yL_crates cL_crates 17 (some .boolean) :: pgWd) rm_crates_10 (pgPc D (pgTys cD cC cI cZ cL) A (pvW D cD cC cI cL A σ n ad φ ca f) [.ref (ad 0), .int 10, .int (nI c), .int (nI x0), .ref (ca 0), .ref (ca 1), .ref (ca 3)]) (va_Qi (fun (r : Int32) (u : pgSt × pgSt × (Nat → Int64)) => r = 1 ∧ pvI n u.1 u.2.1 (u.2.2 0) (Bd + 1)) (fun u t9 => (pvW D cD cC cI cL A u.1 n ad u.2.1 ca u.2.2) t9.heap) A) rm_crates_10.cells rm_crates_10.slots A := by
  refine pv_enter (own := RL) (by decide) rfl (Nat.le_of_ble_eq_true rfl) (fun p e s m args below meth cc9 Q B hret => ?_)
  have hG := h.1
  have hn60 : n ≤ 60 := hG.1
  have hc0 : φ 0 0 = nI n := h.2.1.1
  have hm := h.2.2.2.2.2.2
  have hc10 : c < 10 := by omega
  have hse := pv_se hG hc10
  have hr99 : 0 ≤ φ 3 c ∧ φ 3 c ≤ 99 := by
    obtain ⟨-, z2, k9, z3, z4⟩ := h.2.2.2.2.1 c hc10
    rw [z2, z4]
    exact pv_99 (by omega)
  refine j_aload_n B dL_crates_0 0 rfl rfl ?_
  refine j_iload_n B dL_crates_1 2 rfl rfl ?_
  refine j_ask B (σ 11 c) 1 [.int (nI c)] (c_X2_sealOf l hl D cD cC cI cZ cL (pvA A ca) σ n ad hG (nI c)) (pv_askC (by omega) 11) q_296 q_297 q_298 q_1 q_299 hdX2_sealOf rfl ⟨Nat.le_of_ble_eq_true rfl, Nat.le_of_ble_eq_true rfl⟩ (Nat.le_of_ble_eq_true rfl) dL_crates_2 rfl (1) (6) ⟨Nat.le_of_ble_eq_true rfl, Nat.le_of_ble_eq_true rfl⟩ ⟨Nat.le_of_ble_eq_true rfl, Nat.le_of_ble_eq_true rfl⟩ ?_
  refine j_istore B (L' := [(7, .int (σ 11 c)), (0, .ref (ad 0)), (1, .int 10), (2, .int (nI c)), (3, .int (nI x0)), (4, .ref (ca 0)), (5, .ref (ca 1)), (6, .ref (ca 3))]) dL_crates_5 (by decide) rfl ?_
  refine j_aload_n B dL_crates_7 1 rfl rfl ?_
  refine j_iload_n B dL_crates_8 3 rfl rfl ?_
  refine j_ask B (σ 10 c) 1 [.int (nI c)] (c_X2_crateKeeper l hl D cD cC cI cZ cL (pvA A ca) σ n ad hG (nI c)) (pv_askC (by omega) 10) q_435 q_436 q_437 q_1 q_438 hdX2_crateKeeper rfl ⟨Nat.le_of_ble_eq_true rfl, Nat.le_of_ble_eq_true rfl⟩ (Nat.le_of_ble_eq_true rfl) dL_crates_9 rfl (2) (12) ⟨Nat.le_of_ble_eq_true rfl, Nat.le_of_ble_eq_true rfl⟩ ⟨Nat.le_of_ble_eq_true rfl, Nat.le_of_ble_eq_true rfl⟩ ?_
  refine j_istore B (L' := [(8, .int (σ 10 c)), (7, .int (σ 11 c)), (0, .ref (ad 0)), (1, .int 10), (2, .int (nI c)), (3, .int (nI x0)), (4, .ref (ca 0)), (5, .ref (ca 1)), (6, .ref (ca 3))]) dL_crates_12 (by decide) rfl ?_
  refine j_aload_n B dL_crates_14 2 rfl rfl ?_
  refine j_aload B dL_crates_15 6 rfl ?_
  refine j_iload_n B dL_crates_17 4 rfl rfl ?_
  refine j_lawI B 3 [.ref (ad 0), .ref (ca 0), .int (nI c)] (c_L_countIn l hl D cD cC cI cZ cL A σ φ n ad ca f hG (hc0) (nI c)) q_439 q_440 q_0 q_441 hdL_countIn rfl ⟨Nat.le_of_ble_eq_true rfl, Nat.le_of_ble_eq_true rfl⟩ (Nat.le_of_ble_eq_true rfl) dL_crates_18 rfl (62) (372) ⟨Nat.le_of_ble_eq_true rfl, Nat.le_of_ble_eq_true rfl⟩ ⟨Nat.le_of_ble_eq_true rfl, Nat.le_of_ble_eq_true rfl⟩ (fun r1 _ h2 => ?_)
  subst h2
  refine j_istore B (L' := [(9, .int (pgCnt σ n (nI c))), (8, .int (σ 10 c)), (7, .int (σ 11 c)), (0, .ref (ad 0)), (1, .int 10), (2, .int (nI c)), (3, .int (nI x0)), (4, .ref (ca 0)), (5, .ref (ca 1)), (6, .ref (ca 3))]) dL_crates_21 (by decide) rfl ?_
  refine j_iload_n B dL_crates_23 4 rfl rfl ?_
  refine j_bipush B (v := 9) dL_crates_24 (by decide) ?_
  refine j_icmp_ne B 156 dL_crates_26 (by decide) (fun h3 => ?_) (fun h3 => absurd h3 (by decide))
  refine j_iload_n B dL_crates_156 4 rfl rfl ?_
  refine j_bipush B (v := 10) dL_crates_157 (by decide) ?_
  refine j_icmp_ne B 270 dL_crates_159 (by decide) (fun h4 => absurd h4 (by decide)) (fun h4 => ?_)
  refine j_iload_n B dL_crates_162 6 rfl rfl ?_
  refine j_iconst B (v := 3) dL_crates_163 (by decide) ?_
  refine j_remv B (nI (x0 % 3)) (pv_rem (b := 3) (by omega) (by omega) (by omega)) (by decide) dL_crates_164 ?_
  refine j_if_le B 175 dL_crates_165 (by decide) (fun h5 => ?_) (fun h5 => ?_)
  · refine j_iload_n B dL_crates_175 6 rfl rfl ?_
    refine j_iconst B (v := 3) dL_crates_176 (by decide) ?_
    refine j_divv B (nI (x0 / 3)) (pv_div (b := 3) (by omega) (by omega) (by omega)) (by decide) dL_crates_177 ?_
    refine j_bipush B (v := 100) dL_crates_178 (by decide) ?_
    refine j_remv B (nI ((x0 / 3) % 100)) (pv_rem (b := 100) (by omega) (by omega) (by omega)) (by decide) dL_crates_180 ?_
    refine j_istore B (L' := [(10, .int (nI ((x0 / 3) % 100))), (9, .int (pgCnt σ n (nI c))), (8, .int (σ 10 c)), (7, .int (σ 11 c)), (0, .ref (ad 0)), (1, .int 10), (2, .int (nI c)), (3, .int (nI x0)), (4, .ref (ca 0)), (5, .ref (ca 1)), (6, .ref (ca 3))]) dL_crates_181 (by decide) rfl ?_
    refine j_aload_n B dL_crates_183 4 rfl rfl ?_
    refine j_bipush B (v := 10) dL_crates_184 (by decide) ?_
    refine j_iload_n B dL_crates_186 6 rfl rfl ?_
    refine j_iload B dL_crates_187 0 rfl ?_
    refine j_iconst B (v := 0) dL_crates_189 (by decide) ?_
    obtain ⟨t1, τ1, et, eτ, hS1, hg1, hE1, hs1, hA1, hB1⟩ := pv_open h hc10 (v := (nI ((x0 / 3) % 100))) (pv_99 (by omega))
    have hM := c_L_asks_10 l hl D cD cC cI cZ cL A σ φ n ad ca f hG (nI c) (nI ((x0 / 3) % 100)) 0 hS1
    rw [et, eτ] at hM
    refine j_lawW B 5 [.ref (ad 0), .int 10, .int (nI c), .int (nI ((x0 / 3) % 100)), .int 0] hM q_305 q_306 q_0 q_307 hdL_asks rfl ⟨Nat.le_of_ble_eq_true rfl, Nat.le_of_ble_eq_true rfl⟩ (Nat.le_of_ble_eq_true rfl) dL_crates_190 rfl (64) (384) ⟨Nat.le_of_ble_eq_true rfl, Nat.le_of_ble_eq_true rfl⟩ ⟨Nat.le_of_ble_eq_true rfl, Nat.le_of_ble_eq_true rfl⟩ (fun r6 _ h7 => ?_)
    rw [h7]
    clear hM h7 r6
    refine j_istore B (L' := [(11, .int t1), (10, .int (nI ((x0 / 3) % 100))), (9, .int (pgCnt σ n (nI c))), (8, .int (σ 10 c)), (7, .int (σ 11 c)), (0, .ref (ad 0)), (1, .int 10), (2, .int (nI c)), (3, .int (nI x0)), (4, .ref (ca 0)), (5, .ref (ca 1)), (6, .ref (ca 3))]) dL_crates_193 (by decide) rfl ?_
    refine j_aload B dL_crates_195 9 rfl ?_
    refine j_iconst B (v := 4) dL_crates_197 (by decide) ?_
    refine j_dup2 B dL_crates_198 rfl rfl ?_
    refine j_pld B (k := 0) (j := 4) (v := φ 0 4) (by omega) rfl (show 4 < 5 by omega) rfl dL_crates_199 ?_
    refine j_iload B dL_crates_200 4 rfl ?_
    refine j_if_lt B 218 dL_crates_202 (by decide) (fun h8 => ?_) (fun h8 => ?_)
    · refine j_iconst B (v := 0) dL_crates_218 (by decide) ?_
      refine j_addv B ((φ 0 4) + 0) (rfl) dL_crates_219 ?_
      refine j_pst B (k := 0) (j := 4) (by omega) rfl (show 4 < 5 by omega) dL_crates_220 ?_
      refine j_iload B dL_crates_221 0 rfl ?_
      refine j_iload B dL_crates_223 4 rfl ?_
      refine j_if_ge B 233 dL_crates_225 (by decide) (fun h9 => (by clear B hret; grind : False).elim) (fun h9 => ?_)
      refine j_bipush B (v := (-8)) dL_crates_228 (by decide) ?_
      refine j_goto B 240 dL_crates_230 (by decide) ?_
      refine j_icmp_ne B 268 dL_crates_240 (by decide) (fun h10 => (by clear B hret; grind : False).elim) (fun h10 => ?_)
      refine j_aload_n B dL_crates_243 5 rfl rfl ?_
      refine j_iload_n B dL_crates_244 7 rfl rfl ?_
      refine j_ask B (τ1 11 c) 1 [.int (nI c)] (c_X2_sealOf l hl D cD cC cI cZ cL (pvA A ca) τ1 n ad hg1 (nI c)) (pv_askC (by omega) 11) q_296 q_297 q_298 q_1 q_299 hdX2_sealOf rfl ⟨Nat.le_of_ble_eq_true rfl, Nat.le_of_ble_eq_true rfl⟩ (Nat.le_of_ble_eq_true rfl) dL_crates_245 rfl (65) (390) ⟨Nat.le_of_ble_eq_true rfl, Nat.le_of_ble_eq_true rfl⟩ ⟨Nat.le_of_ble_eq_true rfl, Nat.le_of_ble_eq_true rfl⟩ ?_
      refine j_iconst B (v := (-1)) dL_crates_248 (by decide) ?_
      refine j_icmp_ne B 268 dL_crates_249 (by decide) (fun h11 => (by clear B hret; grind : False).elim) (fun h11 => ?_)
      refine j_aload_n B dL_crates_252 5 rfl rfl ?_
      refine j_aload B dL_crates_253 9 rfl ?_
      refine j_aload B dL_crates_255 10 rfl ?_
      refine j_lconst B (v := 0) dL_crates_257 (by decide) ?_
      refine j_lawI B 4 [.ref (ad 0), .ref (ca 0), .ref (ca 1), .long 0] (c_L_areSame l hl D cD cC cI cZ cL A τ1 (pgU φ 0 4 ((φ 0 4) + 0)) n ad ca f hg1 (by simpa [pgU] using hc0) 0 (pv_same0 hd (hE1) (fun _ => (by simp [pgU])))) q_429 q_430 q_0 q_431 hdL_areSame rfl ⟨Nat.le_of_ble_eq_true rfl, Nat.le_of_ble_eq_true rfl⟩ (Nat.le_of_ble_eq_true rfl) dL_crates_258 rfl (425) (2550) ⟨Nat.le_of_ble_eq_true rfl, Nat.le_of_ble_eq_true rfl⟩ ⟨Nat.le_of_ble_eq_true rfl, Nat.le_of_ble_eq_true rfl⟩ (fun r12 _ h13 => ?_)
      subst h13
      refine j_if_eq B 268 dL_crates_261 (by decide) (fun h14 => absurd h14 (by decide)) (fun h14 => ?_)
      refine j_iconst B (v := 1) dL_crates_264 (by decide) ?_
      refine j_goto B 269 dL_crates_265 (by decide) ?_
      exact hret 269 _ 1 (τ1, pgU φ 0 4 ((φ 0 4) + 0), f) (425) (2550) dL_crates_269 rfl (Nat.le_of_ble_eq_true rfl) (Nat.le_of_ble_eq_true rfl) ⟨rfl, show pvI n τ1 (pgU φ 0 4 ((φ 0 4) + 0)) (f 0) (Bd + 1) from pvI_le (Bd := Bd) (by clear B hret; grind) (by omega)⟩
    · refine j_iload B dL_crates_205 1 rfl ?_
      refine j_aload B dL_crates_207 11 rfl ?_
      refine j_iload_n B dL_crates_209 7 rfl rfl ?_
      refine j_pld B (k := 3) (j := c) (v := φ 3 c) (by omega) rfl (show c < 10 by omega) rfl dL_crates_210 ?_
      refine j_icmp_eq B 218 dL_crates_211 (by decide) (fun h15 => ?_) (fun h15 => ?_)
      · refine j_iconst B (v := 0) dL_crates_218 (by decide) ?_
        refine j_addv B ((φ 0 4) + 0) (rfl) dL_crates_219 ?_
        refine j_pst B (k := 0) (j := 4) (by omega) rfl (show 4 < 5 by omega) dL_crates_220 ?_
        refine j_iload B dL_crates_221 0 rfl ?_
        refine j_iload B dL_crates_223 4 rfl ?_
        refine j_if_ge B 233 dL_crates_225 (by decide) (fun h16 => ?_) (fun h16 => (by clear B hret; grind : False).elim)
        refine j_iload B dL_crates_233 1 rfl ?_
        refine j_aload B dL_crates_235 11 rfl ?_
        refine j_iload_n B dL_crates_237 7 rfl rfl ?_
        refine j_pld B (k := 3) (j := c) (v := φ 3 c) (by omega) rfl (show c < 10 by omega) (by simp [pgU]) dL_crates_238 ?_
        refine j_subv B ((nI ((x0 / 3) % 100)) - (φ 3 c)) (rfl) dL_crates_239 ?_
        refine j_icmp_ne B 268 dL_crates_240 (by decide) (fun h17 => (by clear B hret; grind : False).elim) (fun h17 => ?_)
        refine j_aload_n B dL_crates_243 5 rfl rfl ?_
        refine j_iload_n B dL_crates_244 7 rfl rfl ?_
        refine j_ask B (τ1 11 c) 1 [.int (nI c)] (c_X2_sealOf l hl D cD cC cI cZ cL (pvA A ca) τ1 n ad hg1 (nI c)) (pv_askC (by omega) 11) q_296 q_297 q_298 q_1 q_299 hdX2_sealOf rfl ⟨Nat.le_of_ble_eq_true rfl, Nat.le_of_ble_eq_true rfl⟩ (Nat.le_of_ble_eq_true rfl) dL_crates_245 rfl (65) (390) ⟨Nat.le_of_ble_eq_true rfl, Nat.le_of_ble_eq_true rfl⟩ ⟨Nat.le_of_ble_eq_true rfl, Nat.le_of_ble_eq_true rfl⟩ ?_
        refine j_iconst B (v := (-1)) dL_crates_248 (by decide) ?_
        refine j_icmp_ne B 268 dL_crates_249 (by decide) (fun h18 => (by clear B hret; grind : False).elim) (fun h18 => ?_)
        refine j_aload_n B dL_crates_252 5 rfl rfl ?_
        refine j_aload B dL_crates_253 9 rfl ?_
        refine j_aload B dL_crates_255 10 rfl ?_
        refine j_lconst B (v := 0) dL_crates_257 (by decide) ?_
        refine j_lawI B 4 [.ref (ad 0), .ref (ca 0), .ref (ca 1), .long 0] (c_L_areSame l hl D cD cC cI cZ cL A τ1 (pgU φ 0 4 ((φ 0 4) + 0)) n ad ca f hg1 (by simpa [pgU] using hc0) 0 (pv_same0 hd (hE1) (fun _ => (by simp [pgU])))) q_429 q_430 q_0 q_431 hdL_areSame rfl ⟨Nat.le_of_ble_eq_true rfl, Nat.le_of_ble_eq_true rfl⟩ (Nat.le_of_ble_eq_true rfl) dL_crates_258 rfl (425) (2550) ⟨Nat.le_of_ble_eq_true rfl, Nat.le_of_ble_eq_true rfl⟩ ⟨Nat.le_of_ble_eq_true rfl, Nat.le_of_ble_eq_true rfl⟩ (fun r19 _ h20 => ?_)
        subst h20
        refine j_if_eq B 268 dL_crates_261 (by decide) (fun h21 => absurd h21 (by decide)) (fun h21 => ?_)
        refine j_iconst B (v := 1) dL_crates_264 (by decide) ?_
        refine j_goto B 269 dL_crates_265 (by decide) ?_
        exact hret 269 _ 1 (τ1, pgU φ 0 4 ((φ 0 4) + 0), f) (425) (2550) dL_crates_269 rfl (Nat.le_of_ble_eq_true rfl) (Nat.le_of_ble_eq_true rfl) ⟨rfl, show pvI n τ1 (pgU φ 0 4 ((φ 0 4) + 0)) (f 0) (Bd + 1) from pvI_le (Bd := Bd) (by clear B hret; grind) (by omega)⟩
      · refine j_iconst B (v := 1) dL_crates_214 (by decide) ?_
        refine j_goto B 219 dL_crates_215 (by decide) ?_
        refine j_addv B ((φ 0 4) + 1) (rfl) dL_crates_219 ?_
        refine j_pst B (k := 0) (j := 4) (by omega) rfl (show 4 < 5 by omega) dL_crates_220 ?_
        refine j_iload B dL_crates_221 0 rfl ?_
        refine j_iload B dL_crates_223 4 rfl ?_
        refine j_if_ge B 233 dL_crates_225 (by decide) (fun h22 => ?_) (fun h22 => (by clear B hret; grind : False).elim)
        refine j_iload B dL_crates_233 1 rfl ?_
        refine j_aload B dL_crates_235 11 rfl ?_
        refine j_iload_n B dL_crates_237 7 rfl rfl ?_
        refine j_pld B (k := 3) (j := c) (v := φ 3 c) (by omega) rfl (show c < 10 by omega) (by simp [pgU]) dL_crates_238 ?_
        refine j_subv B ((nI ((x0 / 3) % 100)) - (φ 3 c)) (rfl) dL_crates_239 ?_
        refine j_icmp_ne B 268 dL_crates_240 (by decide) (fun h23 => (by clear B hret; grind : False).elim) (fun h23 => ?_)
        refine j_aload_n B dL_crates_243 5 rfl rfl ?_
        refine j_iload_n B dL_crates_244 7 rfl rfl ?_
        refine j_ask B (τ1 11 c) 1 [.int (nI c)] (c_X2_sealOf l hl D cD cC cI cZ cL (pvA A ca) τ1 n ad hg1 (nI c)) (pv_askC (by omega) 11) q_296 q_297 q_298 q_1 q_299 hdX2_sealOf rfl ⟨Nat.le_of_ble_eq_true rfl, Nat.le_of_ble_eq_true rfl⟩ (Nat.le_of_ble_eq_true rfl) dL_crates_245 rfl (65) (390) ⟨Nat.le_of_ble_eq_true rfl, Nat.le_of_ble_eq_true rfl⟩ ⟨Nat.le_of_ble_eq_true rfl, Nat.le_of_ble_eq_true rfl⟩ ?_
        refine j_iconst B (v := (-1)) dL_crates_248 (by decide) ?_
        refine j_icmp_ne B 268 dL_crates_249 (by decide) (fun h24 => (by clear B hret; grind : False).elim) (fun h24 => ?_)
        refine j_aload_n B dL_crates_252 5 rfl rfl ?_
        refine j_aload B dL_crates_253 9 rfl ?_
        refine j_aload B dL_crates_255 10 rfl ?_
        refine j_lconst B (v := 0) dL_crates_257 (by decide) ?_
        refine j_lawI B 4 [.ref (ad 0), .ref (ca 0), .ref (ca 1), .long 0] (c_L_areSame l hl D cD cC cI cZ cL A τ1 (pgU φ 0 4 ((φ 0 4) + 1)) n ad ca f hg1 (by simpa [pgU] using hc0) 0 (pv_same0 hd (hE1) (fun _ => (by simp [pgU])))) q_429 q_430 q_0 q_431 hdL_areSame rfl ⟨Nat.le_of_ble_eq_true rfl, Nat.le_of_ble_eq_true rfl⟩ (Nat.le_of_ble_eq_true rfl) dL_crates_258 rfl (425) (2550) ⟨Nat.le_of_ble_eq_true rfl, Nat.le_of_ble_eq_true rfl⟩ ⟨Nat.le_of_ble_eq_true rfl, Nat.le_of_ble_eq_true rfl⟩ (fun r25 _ h26 => ?_)
        subst h26
        refine j_if_eq B 268 dL_crates_261 (by decide) (fun h27 => absurd h27 (by decide)) (fun h27 => ?_)
        refine j_iconst B (v := 1) dL_crates_264 (by decide) ?_
        refine j_goto B 269 dL_crates_265 (by decide) ?_
        exact hret 269 _ 1 (τ1, pgU φ 0 4 ((φ 0 4) + 1), f) (425) (2550) dL_crates_269 rfl (Nat.le_of_ble_eq_true rfl) (Nat.le_of_ble_eq_true rfl) ⟨rfl, show pvI n τ1 (pgU φ 0 4 ((φ 0 4) + 1)) (f 0) (Bd + 1) from pvI_le (Bd := Bd) (by clear B hret; grind) (by omega)⟩
  · refine j_aload B dL_crates_168 9 rfl ?_
    refine j_iload_n B dL_crates_170 5 rfl rfl ?_
    refine j_pld B (k := 3) (j := c) (v := φ 3 c) (by omega) rfl (show c < 10 by omega) rfl dL_crates_171 ?_
    refine j_goto B 181 dL_crates_172 (by decide) ?_
    refine j_istore B (L' := [(10, .int (φ 3 c)), (9, .int (pgCnt σ n (nI c))), (8, .int (σ 10 c)), (7, .int (σ 11 c)), (0, .ref (ad 0)), (1, .int 10), (2, .int (nI c)), (3, .int (nI x0)), (4, .ref (ca 0)), (5, .ref (ca 1)), (6, .ref (ca 3))]) dL_crates_181 (by decide) rfl ?_
    refine j_aload_n B dL_crates_183 4 rfl rfl ?_
    refine j_bipush B (v := 10) dL_crates_184 (by decide) ?_
    refine j_iload_n B dL_crates_186 6 rfl rfl ?_
    refine j_iload B dL_crates_187 0 rfl ?_
    refine j_iconst B (v := 0) dL_crates_189 (by decide) ?_
    obtain ⟨t1, τ1, et, eτ, hS1, hg1, hE1, hs1, hA1, hB1⟩ := pv_open h hc10 (v := (φ 3 c)) (hr99)
    have hM := c_L_asks_10 l hl D cD cC cI cZ cL A σ φ n ad ca f hG (nI c) (φ 3 c) 0 hS1
    rw [et, eτ] at hM
    refine j_lawW B 5 [.ref (ad 0), .int 10, .int (nI c), .int (φ 3 c), .int 0] hM q_305 q_306 q_0 q_307 hdL_asks rfl ⟨Nat.le_of_ble_eq_true rfl, Nat.le_of_ble_eq_true rfl⟩ (Nat.le_of_ble_eq_true rfl) dL_crates_190 rfl (64) (384) ⟨Nat.le_of_ble_eq_true rfl, Nat.le_of_ble_eq_true rfl⟩ ⟨Nat.le_of_ble_eq_true rfl, Nat.le_of_ble_eq_true rfl⟩ (fun r28 _ h29 => ?_)
    rw [h29]
    clear hM h29 r28
    refine j_istore B (L' := [(11, .int t1), (10, .int (φ 3 c)), (9, .int (pgCnt σ n (nI c))), (8, .int (σ 10 c)), (7, .int (σ 11 c)), (0, .ref (ad 0)), (1, .int 10), (2, .int (nI c)), (3, .int (nI x0)), (4, .ref (ca 0)), (5, .ref (ca 1)), (6, .ref (ca 3))]) dL_crates_193 (by decide) rfl ?_
    refine j_aload B dL_crates_195 9 rfl ?_
    refine j_iconst B (v := 4) dL_crates_197 (by decide) ?_
    refine j_dup2 B dL_crates_198 rfl rfl ?_
    refine j_pld B (k := 0) (j := 4) (v := φ 0 4) (by omega) rfl (show 4 < 5 by omega) rfl dL_crates_199 ?_
    refine j_iload B dL_crates_200 4 rfl ?_
    refine j_if_lt B 218 dL_crates_202 (by decide) (fun h30 => ?_) (fun h30 => ?_)
    · refine j_iconst B (v := 0) dL_crates_218 (by decide) ?_
      refine j_addv B ((φ 0 4) + 0) (rfl) dL_crates_219 ?_
      refine j_pst B (k := 0) (j := 4) (by omega) rfl (show 4 < 5 by omega) dL_crates_220 ?_
      refine j_iload B dL_crates_221 0 rfl ?_
      refine j_iload B dL_crates_223 4 rfl ?_
      refine j_if_ge B 233 dL_crates_225 (by decide) (fun h31 => (by clear B hret; grind : False).elim) (fun h31 => ?_)
      refine j_bipush B (v := (-8)) dL_crates_228 (by decide) ?_
      refine j_goto B 240 dL_crates_230 (by decide) ?_
      refine j_icmp_ne B 268 dL_crates_240 (by decide) (fun h32 => (by clear B hret; grind : False).elim) (fun h32 => ?_)
      refine j_aload_n B dL_crates_243 5 rfl rfl ?_
      refine j_iload_n B dL_crates_244 7 rfl rfl ?_
      refine j_ask B (τ1 11 c) 1 [.int (nI c)] (c_X2_sealOf l hl D cD cC cI cZ cL (pvA A ca) τ1 n ad hg1 (nI c)) (pv_askC (by omega) 11) q_296 q_297 q_298 q_1 q_299 hdX2_sealOf rfl ⟨Nat.le_of_ble_eq_true rfl, Nat.le_of_ble_eq_true rfl⟩ (Nat.le_of_ble_eq_true rfl) dL_crates_245 rfl (65) (390) ⟨Nat.le_of_ble_eq_true rfl, Nat.le_of_ble_eq_true rfl⟩ ⟨Nat.le_of_ble_eq_true rfl, Nat.le_of_ble_eq_true rfl⟩ ?_
      refine j_iconst B (v := (-1)) dL_crates_248 (by decide) ?_
      refine j_icmp_ne B 268 dL_crates_249 (by decide) (fun h33 => (by clear B hret; grind : False).elim) (fun h33 => ?_)
      refine j_aload_n B dL_crates_252 5 rfl rfl ?_
      refine j_aload B dL_crates_253 9 rfl ?_
      refine j_aload B dL_crates_255 10 rfl ?_
      refine j_lconst B (v := 0) dL_crates_257 (by decide) ?_
      refine j_lawI B 4 [.ref (ad 0), .ref (ca 0), .ref (ca 1), .long 0] (c_L_areSame l hl D cD cC cI cZ cL A τ1 (pgU φ 0 4 ((φ 0 4) + 0)) n ad ca f hg1 (by simpa [pgU] using hc0) 0 (pv_same0 hd (hE1) (fun _ => (by simp [pgU])))) q_429 q_430 q_0 q_431 hdL_areSame rfl ⟨Nat.le_of_ble_eq_true rfl, Nat.le_of_ble_eq_true rfl⟩ (Nat.le_of_ble_eq_true rfl) dL_crates_258 rfl (425) (2550) ⟨Nat.le_of_ble_eq_true rfl, Nat.le_of_ble_eq_true rfl⟩ ⟨Nat.le_of_ble_eq_true rfl, Nat.le_of_ble_eq_true rfl⟩ (fun r34 _ h35 => ?_)
      subst h35
      refine j_if_eq B 268 dL_crates_261 (by decide) (fun h36 => absurd h36 (by decide)) (fun h36 => ?_)
      refine j_iconst B (v := 1) dL_crates_264 (by decide) ?_
      refine j_goto B 269 dL_crates_265 (by decide) ?_
      exact hret 269 _ 1 (τ1, pgU φ 0 4 ((φ 0 4) + 0), f) (425) (2550) dL_crates_269 rfl (Nat.le_of_ble_eq_true rfl) (Nat.le_of_ble_eq_true rfl) ⟨rfl, show pvI n τ1 (pgU φ 0 4 ((φ 0 4) + 0)) (f 0) (Bd + 1) from pvI_le (Bd := Bd) (by clear B hret; grind) (by omega)⟩
    · refine j_iload B dL_crates_205 1 rfl ?_
      refine j_aload B dL_crates_207 11 rfl ?_
      refine j_iload_n B dL_crates_209 7 rfl rfl ?_
      refine j_pld B (k := 3) (j := c) (v := φ 3 c) (by omega) rfl (show c < 10 by omega) rfl dL_crates_210 ?_
      refine j_icmp_eq B 218 dL_crates_211 (by decide) (fun h37 => ?_) (fun h37 => absurd rfl h37)
      refine j_iconst B (v := 0) dL_crates_218 (by decide) ?_
      refine j_addv B ((φ 0 4) + 0) (rfl) dL_crates_219 ?_
      refine j_pst B (k := 0) (j := 4) (by omega) rfl (show 4 < 5 by omega) dL_crates_220 ?_
      refine j_iload B dL_crates_221 0 rfl ?_
      refine j_iload B dL_crates_223 4 rfl ?_
      refine j_if_ge B 233 dL_crates_225 (by decide) (fun h38 => ?_) (fun h38 => (by clear B hret; grind : False).elim)
      refine j_iload B dL_crates_233 1 rfl ?_
      refine j_aload B dL_crates_235 11 rfl ?_
      refine j_iload_n B dL_crates_237 7 rfl rfl ?_
      refine j_pld B (k := 3) (j := c) (v := φ 3 c) (by omega) rfl (show c < 10 by omega) (by simp [pgU]) dL_crates_238 ?_
      refine j_subv B ((φ 3 c) - (φ 3 c)) (rfl) dL_crates_239 ?_
      refine j_icmp_ne B 268 dL_crates_240 (by decide) (fun h39 => (by clear B hret; grind : False).elim) (fun h39 => ?_)
      refine j_aload_n B dL_crates_243 5 rfl rfl ?_
      refine j_iload_n B dL_crates_244 7 rfl rfl ?_
      refine j_ask B (τ1 11 c) 1 [.int (nI c)] (c_X2_sealOf l hl D cD cC cI cZ cL (pvA A ca) τ1 n ad hg1 (nI c)) (pv_askC (by omega) 11) q_296 q_297 q_298 q_1 q_299 hdX2_sealOf rfl ⟨Nat.le_of_ble_eq_true rfl, Nat.le_of_ble_eq_true rfl⟩ (Nat.le_of_ble_eq_true rfl) dL_crates_245 rfl (65) (390) ⟨Nat.le_of_ble_eq_true rfl, Nat.le_of_ble_eq_true rfl⟩ ⟨Nat.le_of_ble_eq_true rfl, Nat.le_of_ble_eq_true rfl⟩ ?_
      refine j_iconst B (v := (-1)) dL_crates_248 (by decide) ?_
      refine j_icmp_ne B 268 dL_crates_249 (by decide) (fun h40 => (by clear B hret; grind : False).elim) (fun h40 => ?_)
      refine j_aload_n B dL_crates_252 5 rfl rfl ?_
      refine j_aload B dL_crates_253 9 rfl ?_
      refine j_aload B dL_crates_255 10 rfl ?_
      refine j_lconst B (v := 0) dL_crates_257 (by decide) ?_
      refine j_lawI B 4 [.ref (ad 0), .ref (ca 0), .ref (ca 1), .long 0] (c_L_areSame l hl D cD cC cI cZ cL A τ1 (pgU φ 0 4 ((φ 0 4) + 0)) n ad ca f hg1 (by simpa [pgU] using hc0) 0 (pv_same0 hd (hE1) (fun _ => (by simp [pgU])))) q_429 q_430 q_0 q_431 hdL_areSame rfl ⟨Nat.le_of_ble_eq_true rfl, Nat.le_of_ble_eq_true rfl⟩ (Nat.le_of_ble_eq_true rfl) dL_crates_258 rfl (425) (2550) ⟨Nat.le_of_ble_eq_true rfl, Nat.le_of_ble_eq_true rfl⟩ ⟨Nat.le_of_ble_eq_true rfl, Nat.le_of_ble_eq_true rfl⟩ (fun r41 _ h42 => ?_)
      subst h42
      refine j_if_eq B 268 dL_crates_261 (by decide) (fun h43 => absurd h43 (by decide)) (fun h43 => ?_)
      refine j_iconst B (v := 1) dL_crates_264 (by decide) ?_
      refine j_goto B 269 dL_crates_265 (by decide) ?_
      exact hret 269 _ 1 (τ1, pgU φ 0 4 ((φ 0 4) + 0), f) (425) (2550) dL_crates_269 rfl (Nat.le_of_ble_eq_true rfl) (Nat.le_of_ble_eq_true rfl) ⟨rfl, show pvI n τ1 (pgU φ 0 4 ((φ 0 4) + 0)) (f 0) (Bd + 1) from pvI_le (Bd := Bd) (by clear B hret; grind) (by omega)⟩
/-- crates_11 -/
abbrev rm_crates_11 : Room := { frames := 10, cells := 700, slots := 4200, locals := 172 }
set_option maxHeartbeats 4000000 in
set_option maxRecDepth 100000 in
theorem c_L_crates_11 (l : Launch) (hl : l.stackTraces = false) (D : va_G) (cD cC cI cZ cL : ClassId) (A : Nat → Prop) (σ φ : pgSt) (n : Nat) (ad ca : Nat → Nat) (f : Nat → Int64) (Bd : Nat) (h : pvI n σ φ (f 0) Bd) (hd : ∀ i, i < n → φ 1 i = pvE σ i) (c : Nat) (hc : c < 4) (x0 : Nat) (hx : x0 < 2 ^ 31) : Met l yL_crates (.code yL_crates cL_crates 17 (some .boolean) :: pgWd) rm_crates_11 (pgPc D (pgTys cD cC cI cZ cL) A (pvW D cD cC cI cL A σ n ad φ ca f) [.ref (ad 0), .int 11, .int (nI c), .int (nI x0), .ref (ca 0), .ref (ca 1), .ref (ca 3)]) (va_Qi (fun (r : Int32) (u : pgSt × pgSt × (Nat → Int64)) => r = 1 ∧ pvI n u.1 u.2.1 (u.2.2 0) (Bd + 1)) (fun u t9 => (pvW D cD cC cI cL A u.1 n ad u.2.1 ca u.2.2) t9.heap) A) rm_crates_11.cells rm_crates_11.slots A := by
  refine pv_enter (own := RL) (by decide) rfl (Nat.le_of_ble_eq_true rfl) (fun p e s m args below meth cc9 Q B hret => ?_)
  have hG := h.1
  have hn60 : n ≤ 60 := hG.1
  have hc0 : φ 0 0 = nI n := h.2.1.1
  have hm := h.2.2.2.2.2.2
  have hc10 : c < 10 := by omega
  have hse := pv_se hG hc10
  refine j_aload_n B dL_crates_0 0 rfl rfl ?_
  refine j_iload_n B dL_crates_1 2 rfl rfl ?_
  refine j_ask B (σ 11 c) 1 [.int (nI c)] (c_X2_sealOf l hl D cD cC cI cZ cL (pvA A ca) σ n ad hG (nI c)) (pv_askC (by omega) 11) q_296 q_297 q_298 q_1 q_299 hdX2_sealOf rfl ⟨Nat.le_of_ble_eq_true rfl, Nat.le_of_ble_eq_true rfl⟩ (Nat.le_of_ble_eq_true rfl) dL_crates_2 rfl (1) (6) ⟨Nat.le_of_ble_eq_true rfl, Nat.le_of_ble_eq_true rfl⟩ ⟨Nat.le_of_ble_eq_true rfl, Nat.le_of_ble_eq_true rfl⟩ ?_
  refine j_istore B (L' := [(7, .int (σ 11 c)), (0, .ref (ad 0)), (1, .int 11), (2, .int (nI c)), (3, .int (nI x0)), (4, .ref (ca 0)), (5, .ref (ca 1)), (6, .ref (ca 3))]) dL_crates_5 (by decide) rfl ?_
  refine j_aload_n B dL_crates_7 1 rfl rfl ?_
  refine j_iload_n B dL_crates_8 3 rfl rfl ?_
  refine j_ask B (σ 10 c) 1 [.int (nI c)] (c_X2_crateKeeper l hl D cD cC cI cZ cL (pvA A ca) σ n ad hG (nI c)) (pv_askC (by omega) 10) q_435 q_436 q_437 q_1 q_438 hdX2_crateKeeper rfl ⟨Nat.le_of_ble_eq_true rfl, Nat.le_of_ble_eq_true rfl⟩ (Nat.le_of_ble_eq_true rfl) dL_crates_9 rfl (2) (12) ⟨Nat.le_of_ble_eq_true rfl, Nat.le_of_ble_eq_true rfl⟩ ⟨Nat.le_of_ble_eq_true rfl, Nat.le_of_ble_eq_true rfl⟩ ?_
  refine j_istore B (L' := [(8, .int (σ 10 c)), (7, .int (σ 11 c)), (0, .ref (ad 0)), (1, .int 11), (2, .int (nI c)), (3, .int (nI x0)), (4, .ref (ca 0)), (5, .ref (ca 1)), (6, .ref (ca 3))]) dL_crates_12 (by decide) rfl ?_
  refine j_aload_n B dL_crates_14 2 rfl rfl ?_
  refine j_aload B dL_crates_15 6 rfl ?_
  refine j_iload_n B dL_crates_17 4 rfl rfl ?_
  refine j_lawI B 3 [.ref (ad 0), .ref (ca 0), .int (nI c)] (c_L_countIn l hl D cD cC cI cZ cL A σ φ n ad ca f hG (hc0) (nI c)) q_439 q_440 q_0 q_441 hdL_countIn rfl ⟨Nat.le_of_ble_eq_true rfl, Nat.le_of_ble_eq_true rfl⟩ (Nat.le_of_ble_eq_true rfl) dL_crates_18 rfl (62) (372) ⟨Nat.le_of_ble_eq_true rfl, Nat.le_of_ble_eq_true rfl⟩ ⟨Nat.le_of_ble_eq_true rfl, Nat.le_of_ble_eq_true rfl⟩ (fun r1 _ h2 => ?_)
  subst h2
  refine j_istore B (L' := [(9, .int (pgCnt σ n (nI c))), (8, .int (σ 10 c)), (7, .int (σ 11 c)), (0, .ref (ad 0)), (1, .int 11), (2, .int (nI c)), (3, .int (nI x0)), (4, .ref (ca 0)), (5, .ref (ca 1)), (6, .ref (ca 3))]) dL_crates_21 (by decide) rfl ?_
  refine j_iload_n B dL_crates_23 4 rfl rfl ?_
  refine j_bipush B (v := 9) dL_crates_24 (by decide) ?_
  refine j_icmp_ne B 156 dL_crates_26 (by decide) (fun h3 => ?_) (fun h3 => absurd h3 (by decide))
  refine j_iload_n B dL_crates_156 4 rfl rfl ?_
  refine j_bipush B (v := 10) dL_crates_157 (by decide) ?_
  refine j_icmp_ne B 270 dL_crates_159 (by decide) (fun h4 => ?_) (fun h4 => absurd h4 (by decide))
  refine j_iload_n B dL_crates_270 6 rfl rfl ?_
  refine j_bipush B (v := 8) dL_crates_271 (by decide) ?_
  refine j_remv B (nI (x0 % 8)) (pv_rem (b := 8) (by omega) (by omega) (by omega)) (by decide) dL_crates_273 ?_
  refine j_istore B (L' := [(10, .int (nI (x0 % 8))), (9, .int (pgCnt σ n (nI c))), (8, .int (σ 10 c)), (7, .int (σ 11 c)), (0, .ref (ad 0)), (1, .int 11), (2, .int (nI c)), (3, .int (nI x0)), (4, .ref (ca 0)), (5, .ref (ca 1)), (6, .ref (ca 3))]) dL_crates_274 (by decide) rfl ?_
  refine j_iload B dL_crates_276 3 rfl ?_
  have kj5 : ∀ v6 : Int32, (v6 = 1 ∧ (σ 11 c ≠ -1 ∨ pgCnt σ n (nI c) = 0) ∨ v6 = 0 ∧ ¬ (σ 11 c ≠ -1 ∨ pgCnt σ n (nI c) = 0)) → pgJ p l e rm_crates_11 s m args below meth cc9 17 A (pvW D cD cC cI cL A σ n ad φ ca f) (62) (372) Q 291 [(10, .int (nI (x0 % 8))), (9, .int (pgCnt σ n (nI c))), (8, .int (σ 10 c)), (7, .int (σ 11 c)), (0, .ref (ad 0)), (1, .int 11), (2, .int (nI c)), (3, .int (nI x0)), (4, .ref (ca 0)), (5, .ref (ca 1)), (6, .ref (ca 3))] (.int v6 :: []) := by
    intro v6 hv7
    rcases hv7 with ⟨rfl, h8⟩ | ⟨rfl, h8⟩
    · refine j_istore B (L' := [(11, .int 1), (10, .int (nI (x0 % 8))), (9, .int (pgCnt σ n (nI c))), (8, .int (σ 10 c)), (7, .int (σ 11 c)), (0, .ref (ad 0)), (1, .int 11), (2, .int (nI c)), (3, .int (nI x0)), (4, .ref (ca 0)), (5, .ref (ca 1)), (6, .ref (ca 3))]) dL_crates_291 (by decide) rfl ?_
      refine j_aload_n B dL_crates_293 5 rfl rfl ?_
      refine j_bipush B (v := 11) dL_crates_294 (by decide) ?_
      refine j_iload_n B dL_crates_296 7 rfl rfl ?_
      refine j_iload B dL_crates_297 1 rfl ?_
      refine j_iconst B (v := 0) dL_crates_299 (by decide) ?_
      obtain ⟨t1, τ1, et, eτ, hS1, hg1, hA1, hB1, hC1⟩ := pv_carry h hc10 (show x0 % 8 < 8 by omega)
      have hM := c_L_asks_11 l hl D cD cC cI cZ cL A σ φ n ad ca f hG (nI c) (nI (x0 % 8)) 0 hS1
      rw [et, eτ] at hM
      refine j_lawW B 5 [.ref (ad 0), .int 11, .int (nI c), .int (nI (x0 % 8)), .int 0] hM q_305 q_306 q_0 q_307 hdL_asks rfl ⟨Nat.le_of_ble_eq_true rfl, Nat.le_of_ble_eq_true rfl⟩ (Nat.le_of_ble_eq_true rfl) dL_crates_300 rfl (65) (390) ⟨Nat.le_of_ble_eq_true rfl, Nat.le_of_ble_eq_true rfl⟩ ⟨Nat.le_of_ble_eq_true rfl, Nat.le_of_ble_eq_true rfl⟩ (fun r9 _ h10 => ?_)
      rw [h10]
      clear hM h10 r9
      refine j_istore B (L' := [(12, .int t1), (11, .int 1), (10, .int (nI (x0 % 8))), (9, .int (pgCnt σ n (nI c))), (8, .int (σ 10 c)), (7, .int (σ 11 c)), (0, .ref (ad 0)), (1, .int 11), (2, .int (nI c)), (3, .int (nI x0)), (4, .ref (ca 0)), (5, .ref (ca 1)), (6, .ref (ca 3))]) dL_crates_303 (by decide) rfl ?_
      refine j_iload B dL_crates_305 2 rfl ?_
      refine j_iload B dL_crates_307 4 rfl ?_
      refine j_icmp_eq B 317 dL_crates_309 (by decide) (fun h11 => ?_) (fun h11 => ?_)
      · refine j_iload B dL_crates_317 0 rfl ?_
        refine j_iload B dL_crates_319 2 rfl ?_
        refine j_iload B dL_crates_321 4 rfl ?_
        refine j_icmp_ne B 331 dL_crates_323 (by decide) (fun h12 => (by clear B hret; grind : False).elim) (fun h12 => ?_)
        refine j_bipush B (v := (-9)) dL_crates_326 (by decide) ?_
        refine j_goto B 333 dL_crates_328 (by decide) ?_
        refine j_icmp_ne B 352 dL_crates_333 (by decide) (fun h13 => (by clear B hret; grind : False).elim) (fun h13 => ?_)
        refine j_aload_n B dL_crates_336 6 rfl rfl ?_
        refine j_aload B dL_crates_337 10 rfl ?_
        refine j_aload B dL_crates_339 11 rfl ?_
        refine j_lconst B (v := 0) dL_crates_341 (by decide) ?_
        refine j_lawI B 4 [.ref (ad 0), .ref (ca 0), .ref (ca 1), .long 0] (c_L_areSame l hl D cD cC cI cZ cL A τ1 φ n ad ca f hg1 (hc0) 0 (pv_same0 hd (by clear B hret; grind) (fun _ => rfl))) q_429 q_430 q_0 q_431 hdL_areSame rfl ⟨Nat.le_of_ble_eq_true rfl, Nat.le_of_ble_eq_true rfl⟩ (Nat.le_of_ble_eq_true rfl) dL_crates_342 rfl (425) (2550) ⟨Nat.le_of_ble_eq_true rfl, Nat.le_of_ble_eq_true rfl⟩ ⟨Nat.le_of_ble_eq_true rfl, Nat.le_of_ble_eq_true rfl⟩ (fun r14 _ h15 => ?_)
        subst h15
        refine j_if_eq B 352 dL_crates_345 (by decide) (fun h16 => absurd h16 (by decide)) (fun h16 => ?_)
        refine j_iconst B (v := 1) dL_crates_348 (by decide) ?_
        refine j_goto B 353 dL_crates_349 (by decide) ?_
        exact hret 353 _ 1 (τ1, φ, f) (425) (2550) dL_crates_353 rfl (Nat.le_of_ble_eq_true rfl) (Nat.le_of_ble_eq_true rfl) ⟨rfl, show pvI n τ1 (φ) (f 0) (Bd + 1) from pvI_le (Bd := Bd) (by clear B hret; grind) (by omega)⟩
      · refine j_iload B dL_crates_312 1 rfl ?_
        refine j_if_ne B 354 dL_crates_314 (by decide) (fun h17 => ?_) (fun h17 => absurd h17 (by decide))
        obtain ⟨f1, f2, f3, f4, f5, f6, f7⟩ := hC1 (by clear B hret; grind) (by clear B hret; grind)
        have hcnt := pv_cnt3 (n := n) (v := nI c) f4
        refine j_aload B dL_crates_354 10 rfl ?_
        refine j_iconst B (v := 1) dL_crates_356 (by decide) ?_
        refine j_dup2 B dL_crates_357 rfl rfl ?_
        refine j_pld B (k := 0) (j := 1) (v := φ 0 1) (by omega) rfl (show 1 < 5 by omega) rfl dL_crates_358 ?_
        refine j_iload B dL_crates_359 3 rfl ?_
        refine j_addv B ((φ 0 1) + (pgCnt σ n (nI c))) (rfl) dL_crates_361 ?_
        refine j_pst B (k := 0) (j := 1) (by omega) rfl (show 1 < 5 by omega) dL_crates_362 ?_
        refine j_lconst B (v := 0) dL_crates_363 (by decide) ?_
        refine j_lstore B (L' := [(13, .long 0), (12, .int t1), (11, .int 1), (10, .int (nI (x0 % 8))), (9, .int (pgCnt σ n (nI c))), (8, .int (σ 10 c)), (7, .int (σ 11 c)), (0, .ref (ad 0)), (1, .int 11), (2, .int (nI c)), (3, .int (nI x0)), (4, .ref (ca 0)), (5, .ref (ca 1)), (6, .ref (ca 3))]) dL_crates_364 (by decide) rfl ?_
        refine j_iload B dL_crates_366 1 rfl ?_
        refine j_iload B dL_crates_368 5 rfl ?_
        refine j_icmp_ne B 397 dL_crates_370 (by decide) (fun h18 => (by clear B hret; grind : False).elim) (fun h18 => ?_)
        refine j_aload_n B dL_crates_373 7 rfl rfl ?_
        refine j_iload_n B dL_crates_374 9 rfl rfl ?_
        refine j_ask B (τ1 10 c) 1 [.int (nI c)] (c_X2_crateKeeper l hl D cD cC cI cZ cL (pvA A ca) τ1 n ad hg1 (nI c)) (pv_askC (by omega) 10) q_435 q_436 q_437 q_1 q_438 hdX2_crateKeeper rfl ⟨Nat.le_of_ble_eq_true rfl, Nat.le_of_ble_eq_true rfl⟩ (Nat.le_of_ble_eq_true rfl) dL_crates_375 rfl (66) (396) ⟨Nat.le_of_ble_eq_true rfl, Nat.le_of_ble_eq_true rfl⟩ ⟨Nat.le_of_ble_eq_true rfl, Nat.le_of_ble_eq_true rfl⟩ ?_
        refine j_iload B dL_crates_378 3 rfl ?_
        refine j_icmp_ne B 397 dL_crates_380 (by decide) (fun h19 => (by clear B hret; grind : False).elim) (fun h19 => ?_)
        refine j_aload_n B dL_crates_383 7 rfl rfl ?_
        refine j_iload_n B dL_crates_384 9 rfl rfl ?_
        refine j_ask B (τ1 11 c) 1 [.int (nI c)] (c_X2_sealOf l hl D cD cC cI cZ cL (pvA A ca) τ1 n ad hg1 (nI c)) (pv_askC (by omega) 11) q_296 q_297 q_298 q_1 q_299 hdX2_sealOf rfl ⟨Nat.le_of_ble_eq_true rfl, Nat.le_of_ble_eq_true rfl⟩ (Nat.le_of_ble_eq_true rfl) dL_crates_385 rfl (67) (402) ⟨Nat.le_of_ble_eq_true rfl, Nat.le_of_ble_eq_true rfl⟩ ⟨Nat.le_of_ble_eq_true rfl, Nat.le_of_ble_eq_true rfl⟩ ?_
        refine j_iload B dL_crates_388 6 rfl ?_
        refine j_icmp_ne B 397 dL_crates_390 (by decide) (fun h20 => (by clear B hret; grind : False).elim) (fun h20 => ?_)
        refine j_iconst B (v := 1) dL_crates_393 (by decide) ?_
        refine j_goto B 398 dL_crates_394 (by decide) ?_
        refine j_istore B (L' := [(15, .int 1), (13, .long 0), (12, .int t1), (11, .int 1), (10, .int (nI (x0 % 8))), (9, .int (pgCnt σ n (nI c))), (8, .int (σ 10 c)), (7, .int (σ 11 c)), (0, .ref (ad 0)), (1, .int 11), (2, .int (nI c)), (3, .int (nI x0)), (4, .ref (ca 0)), (5, .ref (ca 1)), (6, .ref (ca 3))]) dL_crates_398 (by decide) rfl ?_
        refine j_iconst B (v := 0) dL_crates_400 (by decide) ?_
        refine j_istore B (L' := [(16, .int 0), (15, .int 1), (13, .long 0), (12, .int t1), (11, .int 1), (10, .int (nI (x0 % 8))), (9, .int (pgCnt σ n (nI c))), (8, .int (σ 10 c)), (7, .int (σ 11 c)), (0, .ref (ad 0)), (1, .int 11), (2, .int (nI c)), (3, .int (nI x0)), (4, .ref (ca 0)), (5, .ref (ca 1)), (6, .ref (ca 3))]) dL_crates_401 (by decide) rfl ?_
        refine j_loopC (N := n) (X := Int64) (fun i => 67 + 3 * i) (fun i => 402 + 18 * i) (fun i x => ∀ a, a < 64 → (pvB x a ↔ a < i ∧ σ 3 a = nI c)) (fun i x => pvW D cD cC cI cL A τ1 n ad (pgU φ 0 1 ((φ 0 1) + (pgCnt σ n (nI c)))) ca f) (fun i x => [(16, .int (nI i)), (15, .int 1), (13, .long x), (12, .int t1), (11, .int 1), (10, .int (nI (x0 % 8))), (9, .int (pgCnt σ n (nI c))), (8, .int (σ 10 c)), (7, .int (σ 11 c)), (0, .ref (ad 0)), (1, .int 11), (2, .int (nI c)), (3, .int (nI x0)), (4, .ref (ca 0)), (5, .ref (ca 1)), (6, .ref (ca 3))]) (fun i x hi hv ih => ?_) 0 0 (by omega) (fun a _ => ⟨fun z => absurd z pvB_0, fun z => absurd z.1 (Nat.not_lt_zero a)⟩)
        refine j_iload B dL_crates_403 0 rfl ?_
        refine j_aload B dL_crates_405 13 rfl ?_
        refine j_iconst B (v := 0) dL_crates_407 (by decide) ?_
        refine j_pld B (k := 0) (j := 0) (v := nI n) (by omega) rfl (show 0 < 5 by omega) (by simpa [pgU] using hc0) dL_crates_408 ?_
        refine j_icmp_ge B 474 dL_crates_409 (by decide) (fun h21 => ?_) (fun h21 => ?_)
        · have en := pg_eqN hi (by omega) h21
          refine j_iload B dL_crates_474 1 rfl ?_
          refine j_if_eq B 508 dL_crates_476 (by decide) (fun h22 => absurd h22 (by decide)) (fun h22 => ?_)
          refine j_aload_n B dL_crates_479 9 rfl rfl ?_
          refine j_aload B dL_crates_480 13 rfl ?_
          refine j_iload_n B dL_crates_482 11 rfl rfl ?_
          refine j_lawI B 3 [.ref (ad 0), .ref (ca 0), .int (nI c)] (c_L_countIn l hl D cD cC cI cZ cL A τ1 (pgU φ 0 1 ((φ 0 1) + (pgCnt σ n (nI c)))) n ad ca f hg1 (by simpa [pgU] using hc0) (nI c)) q_439 q_440 q_0 q_441 hdL_countIn rfl ⟨Nat.le_of_ble_eq_true rfl, Nat.le_of_ble_eq_true rfl⟩ (Nat.le_of_ble_eq_true rfl) dL_crates_483 rfl (67 + 3 * i + 60) (402 + 18 * i + 360) ⟨by show _ + 60 ≤ _; omega, by show _ + 360 ≤ _; omega⟩ ⟨(show _ ≤ 700 by omega), (show _ ≤ 4200 by omega)⟩ (fun r23 _ h24 => ?_)
          subst h24
          refine j_iload B dL_crates_486 6 rfl ?_
          refine j_icmp_ne B 508 dL_crates_488 (by decide) (fun h25 => (by clear B hret ih; grind : False).elim) (fun h25 => ?_)
          refine j_aload_n B dL_crates_491 9 rfl rfl ?_
          refine j_aload B dL_crates_492 13 rfl ?_
          refine j_aload B dL_crates_494 14 rfl ?_
          refine j_lload B dL_crates_496 2 rfl ?_
          refine j_lawI B 4 [.ref (ad 0), .ref (ca 0), .ref (ca 1), .long x] (c_L_areSame l hl D cD cC cI cZ cL A τ1 (pgU φ 0 1 ((φ 0 1) + (pgCnt σ n (nI c)))) n ad ca f hg1 (by simpa [pgU] using hc0) x (pv_sameM (P := fun a => σ 3 a = nI c) hn60 hd (en ▸ hv) f6 (fun _ => by simp [pgU]))) q_429 q_430 q_0 q_431 hdL_areSame rfl ⟨Nat.le_of_ble_eq_true rfl, Nat.le_of_ble_eq_true rfl⟩ (Nat.le_of_ble_eq_true rfl) dL_crates_498 rfl (67 + 3 * i + 420) (402 + 18 * i + 2520) ⟨by show _ + 360 ≤ _; omega, by show _ + 2160 ≤ _; omega⟩ ⟨(show _ ≤ 700 by omega), (show _ ≤ 4200 by omega)⟩ (fun r26 _ h27 => ?_)
          subst h27
          refine j_if_eq B 508 dL_crates_501 (by decide) (fun h28 => absurd h28 (by decide)) (fun h28 => ?_)
          refine j_iconst B (v := 1) dL_crates_504 (by decide) ?_
          refine j_goto B 509 dL_crates_505 (by decide) ?_
          exact hret 509 _ 1 (τ1, pgU φ 0 1 ((φ 0 1) + (pgCnt σ n (nI c))), f) (67 + 3 * i + 420) (402 + 18 * i + 2520) dL_crates_509 rfl ((show _ ≤ 700 by omega)) ((show _ ≤ 4200 by omega)) ⟨rfl, show pvI n τ1 (pgU φ 0 1 ((φ 0 1) + (pgCnt σ n (nI c)))) (f 0) (Bd + 1) from pvI_le (Bd := Bd) (f7) (by omega)⟩
        · have hlt : i < n := pg_ltN (by omega) hi h21
          refine j_lload B dL_crates_412 2 rfl ?_
          refine j_aload_n B dL_crates_414 9 rfl rfl ?_
          refine j_iload B dL_crates_415 0 rfl ?_
          refine j_ask B (τ1 3 i) 1 [.int (nI i)] (c_X2_crateOf l hl D cD cC cI cZ cL (pvA A ca) τ1 n ad hg1 (nI i)) (pv_askD hg1 (by omega) 3) q_254 q_255 q_256 q_1 q_257 hdX2_crateOf rfl ⟨Nat.le_of_ble_eq_true rfl, Nat.le_of_ble_eq_true rfl⟩ (Nat.le_of_ble_eq_true rfl) dL_crates_417 rfl (67 + 3 * i + 1) (402 + 18 * i + 6) ⟨by show _ + 1 ≤ _; omega, by show _ + 6 ≤ _; omega⟩ ⟨(show _ ≤ 700 by omega), (show _ ≤ 4200 by omega)⟩ ?_
          refine j_iload_n B dL_crates_420 11 rfl rfl ?_
          refine j_icmp_ne B 431 dL_crates_421 (by decide) (fun h29 => ?_) (fun h29 => ?_)
          · refine j_lconst B (v := 0) dL_crates_431 (by decide) ?_
            refine j_lor B dL_crates_432 ?_
            refine j_lstore B (L' := [(13, .long (x ||| 0)), (16, .int (nI i)), (15, .int 1), (12, .int t1), (11, .int 1), (10, .int (nI (x0 % 8))), (9, .int (pgCnt σ n (nI c))), (8, .int (σ 10 c)), (7, .int (σ 11 c)), (0, .ref (ad 0)), (1, .int 11), (2, .int (nI c)), (3, .int (nI x0)), (4, .ref (ca 0)), (5, .ref (ca 1)), (6, .ref (ca 3))]) dL_crates_433 (by decide) rfl ?_
            refine j_iload B dL_crates_435 2 rfl ?_
            refine j_if_eq B 465 dL_crates_437 (by decide) (fun h30 => absurd h30 (by decide)) (fun h30 => ?_)
            refine j_aload_n B dL_crates_440 9 rfl rfl ?_
            refine j_iload B dL_crates_441 1 rfl ?_
            refine j_ask B (τ1 3 i) 1 [.int (nI i)] (c_X2_crateOf l hl D cD cC cI cZ cL (pvA A ca) τ1 n ad hg1 (nI i)) (pv_askD hg1 (by omega) 3) q_254 q_255 q_256 q_1 q_257 hdX2_crateOf rfl ⟨Nat.le_of_ble_eq_true rfl, Nat.le_of_ble_eq_true rfl⟩ (Nat.le_of_ble_eq_true rfl) dL_crates_443 rfl (67 + 3 * i + 2) (402 + 18 * i + 12) ⟨by show _ + 1 ≤ _; omega, by show _ + 6 ≤ _; omega⟩ ⟨(show _ ≤ 700 by omega), (show _ ≤ 4200 by omega)⟩ ?_
            refine j_iload_n B dL_crates_446 11 rfl rfl ?_
            refine j_icmp_ne B 461 dL_crates_447 (by decide) (fun h31 => ?_) (fun h31 => (by clear B hret ih; grind : False).elim)
            refine j_iconst B (v := 1) dL_crates_461 (by decide) ?_
            refine j_goto B 466 dL_crates_462 (by decide) ?_
            refine j_istore B (L' := [(15, .int 1), (13, .long (x ||| 0)), (16, .int (nI i)), (12, .int t1), (11, .int 1), (10, .int (nI (x0 % 8))), (9, .int (pgCnt σ n (nI c))), (8, .int (σ 10 c)), (7, .int (σ 11 c)), (0, .ref (ad 0)), (1, .int 11), (2, .int (nI c)), (3, .int (nI x0)), (4, .ref (ca 0)), (5, .ref (ca 1)), (6, .ref (ca 3))]) dL_crates_466 (by decide) rfl ?_
            refine j_iinc B (v := nI (i + 1)) (L' := [(16, .int (nI (i + 1))), (15, .int 1), (13, .long (x ||| 0)), (12, .int t1), (11, .int 1), (10, .int (nI (x0 % 8))), (9, .int (pgCnt σ n (nI c))), (8, .int (σ 10 c)), (7, .int (σ 11 c)), (0, .ref (ad 0)), (1, .int 11), (2, .int (nI c)), (3, .int (nI x0)), (4, .ref (ca 0)), (5, .ref (ca 1)), (6, .ref (ca 3))]) dL_crates_468 2 rfl (nI_add _ _) (by decide) rfl ?_
            refine j_goto B 403 dL_crates_471 (by decide) ?_
            refine j_widen (k := 67 + 3 * (i + 1)) (n := 402 + 18 * (i + 1)) (by omega) (by omega) ?_
            exact ih hlt _ ((pv_movN (P := fun a => σ 3 a = nI c) hv (fun z => h29 ((f4 i).trans z))))
          · refine j_lconst B (v := 1) dL_crates_424 (by decide) ?_
            refine j_iload B dL_crates_425 0 rfl ?_
            refine j_lshl B dL_crates_427 ?_
            refine j_goto B 432 dL_crates_428 (by decide) ?_
            refine j_lor B dL_crates_432 ?_
            refine j_lstore B (L' := [(13, .long (x ||| ((1 : Int64) <<< ((nI i).toInt64 &&& 63)))), (16, .int (nI i)), (15, .int 1), (12, .int t1), (11, .int 1), (10, .int (nI (x0 % 8))), (9, .int (pgCnt σ n (nI c))), (8, .int (σ 10 c)), (7, .int (σ 11 c)), (0, .ref (ad 0)), (1, .int 11), (2, .int (nI c)), (3, .int (nI x0)), (4, .ref (ca 0)), (5, .ref (ca 1)), (6, .ref (ca 3))]) dL_crates_433 (by decide) rfl ?_
            refine j_iload B dL_crates_435 2 rfl ?_
            refine j_if_eq B 465 dL_crates_437 (by decide) (fun h32 => absurd h32 (by decide)) (fun h32 => ?_)
            refine j_aload_n B dL_crates_440 9 rfl rfl ?_
            refine j_iload B dL_crates_441 1 rfl ?_
            refine j_ask B (τ1 3 i) 1 [.int (nI i)] (c_X2_crateOf l hl D cD cC cI cZ cL (pvA A ca) τ1 n ad hg1 (nI i)) (pv_askD hg1 (by omega) 3) q_254 q_255 q_256 q_1 q_257 hdX2_crateOf rfl ⟨Nat.le_of_ble_eq_true rfl, Nat.le_of_ble_eq_true rfl⟩ (Nat.le_of_ble_eq_true rfl) dL_crates_443 rfl (67 + 3 * i + 2) (402 + 18 * i + 12) ⟨by show _ + 1 ≤ _; omega, by show _ + 6 ≤ _; omega⟩ ⟨(show _ ≤ 700 by omega), (show _ ≤ 4200 by omega)⟩ ?_
            refine j_iload_n B dL_crates_446 11 rfl rfl ?_
            refine j_icmp_ne B 461 dL_crates_447 (by decide) (fun h33 => (by clear B hret ih; grind : False).elim) (fun h33 => ?_)
            refine j_aload_n B dL_crates_450 9 rfl rfl ?_
            refine j_iload B dL_crates_451 1 rfl ?_
            refine j_ask B (τ1 2 i) 1 [.int (nI i)] (c_X2_keeperOf l hl D cD cC cI cZ cL (pvA A ca) τ1 n ad hg1 (nI i)) (pv_askD hg1 (by omega) 2) q_241 q_242 q_243 q_1 q_244 hdX2_keeperOf rfl ⟨Nat.le_of_ble_eq_true rfl, Nat.le_of_ble_eq_true rfl⟩ (Nat.le_of_ble_eq_true rfl) dL_crates_453 rfl (67 + 3 * i + 3) (402 + 18 * i + 18) ⟨by show _ + 1 ≤ _; omega, by show _ + 6 ≤ _; omega⟩ ⟨(show _ ≤ 700 by omega), (show _ ≤ 4200 by omega)⟩ ?_
            refine j_iload B dL_crates_456 5 rfl ?_
            refine j_icmp_ne B 465 dL_crates_458 (by decide) (fun h34 => (by clear B hret ih; grind : False).elim) (fun h34 => ?_)
            refine j_iconst B (v := 1) dL_crates_461 (by decide) ?_
            refine j_goto B 466 dL_crates_462 (by decide) ?_
            refine j_istore B (L' := [(15, .int 1), (13, .long (x ||| ((1 : Int64) <<< ((nI i).toInt64 &&& 63)))), (16, .int (nI i)), (12, .int t1), (11, .int 1), (10, .int (nI (x0 % 8))), (9, .int (pgCnt σ n (nI c))), (8, .int (σ 10 c)), (7, .int (σ 11 c)), (0, .ref (ad 0)), (1, .int 11), (2, .int (nI c)), (3, .int (nI x0)), (4, .ref (ca 0)), (5, .ref (ca 1)), (6, .ref (ca 3))]) dL_crates_466 (by decide) rfl ?_
            refine j_iinc B (v := nI (i + 1)) (L' := [(16, .int (nI (i + 1))), (15, .int 1), (13, .long (x ||| ((1 : Int64) <<< ((nI i).toInt64 &&& 63)))), (12, .int t1), (11, .int 1), (10, .int (nI (x0 % 8))), (9, .int (pgCnt σ n (nI c))), (8, .int (σ 10 c)), (7, .int (σ 11 c)), (0, .ref (ad 0)), (1, .int 11), (2, .int (nI c)), (3, .int (nI x0)), (4, .ref (ca 0)), (5, .ref (ca 1)), (6, .ref (ca 3))]) dL_crates_468 2 rfl (nI_add _ _) (by decide) rfl ?_
            refine j_goto B 403 dL_crates_471 (by decide) ?_
            refine j_widen (k := 67 + 3 * (i + 1)) (n := 402 + 18 * (i + 1)) (by omega) (by omega) ?_
            exact ih hlt _ ((pv_movY (P := fun a => σ 3 a = nI c) (by omega) hv ((f4 i).symm.trans h29)))
    · refine j_istore B (L' := [(11, .int 0), (10, .int (nI (x0 % 8))), (9, .int (pgCnt σ n (nI c))), (8, .int (σ 10 c)), (7, .int (σ 11 c)), (0, .ref (ad 0)), (1, .int 11), (2, .int (nI c)), (3, .int (nI x0)), (4, .ref (ca 0)), (5, .ref (ca 1)), (6, .ref (ca 3))]) dL_crates_291 (by decide) rfl ?_
      refine j_aload_n B dL_crates_293 5 rfl rfl ?_
      refine j_bipush B (v := 11) dL_crates_294 (by decide) ?_
      refine j_iload_n B dL_crates_296 7 rfl rfl ?_
      refine j_iload B dL_crates_297 1 rfl ?_
      refine j_iconst B (v := 0) dL_crates_299 (by decide) ?_
      obtain ⟨t1, τ1, et, eτ, hS1, hg1, hA1, hB1, hC1⟩ := pv_carry h hc10 (show x0 % 8 < 8 by omega)
      have hM := c_L_asks_11 l hl D cD cC cI cZ cL A σ φ n ad ca f hG (nI c) (nI (x0 % 8)) 0 hS1
      rw [et, eτ] at hM
      refine j_lawW B 5 [.ref (ad 0), .int 11, .int (nI c), .int (nI (x0 % 8)), .int 0] hM q_305 q_306 q_0 q_307 hdL_asks rfl ⟨Nat.le_of_ble_eq_true rfl, Nat.le_of_ble_eq_true rfl⟩ (Nat.le_of_ble_eq_true rfl) dL_crates_300 rfl (65) (390) ⟨Nat.le_of_ble_eq_true rfl, Nat.le_of_ble_eq_true rfl⟩ ⟨Nat.le_of_ble_eq_true rfl, Nat.le_of_ble_eq_true rfl⟩ (fun r35 _ h36 => ?_)
      rw [h36]
      clear hM h36 r35
      refine j_istore B (L' := [(12, .int t1), (11, .int 0), (10, .int (nI (x0 % 8))), (9, .int (pgCnt σ n (nI c))), (8, .int (σ 10 c)), (7, .int (σ 11 c)), (0, .ref (ad 0)), (1, .int 11), (2, .int (nI c)), (3, .int (nI x0)), (4, .ref (ca 0)), (5, .ref (ca 1)), (6, .ref (ca 3))]) dL_crates_303 (by decide) rfl ?_
      refine j_iload B dL_crates_305 2 rfl ?_
      refine j_iload B dL_crates_307 4 rfl ?_
      refine j_icmp_eq B 317 dL_crates_309 (by decide) (fun h37 => ?_) (fun h37 => ?_)
      · refine j_iload B dL_crates_317 0 rfl ?_
        refine j_iload B dL_crates_319 2 rfl ?_
        refine j_iload B dL_crates_321 4 rfl ?_
        refine j_icmp_ne B 331 dL_crates_323 (by decide) (fun h38 => (by clear B hret; grind : False).elim) (fun h38 => ?_)
        refine j_bipush B (v := (-9)) dL_crates_326 (by decide) ?_
        refine j_goto B 333 dL_crates_328 (by decide) ?_
        refine j_icmp_ne B 352 dL_crates_333 (by decide) (fun h39 => (by clear B hret; grind : False).elim) (fun h39 => ?_)
        refine j_aload_n B dL_crates_336 6 rfl rfl ?_
        refine j_aload B dL_crates_337 10 rfl ?_
        refine j_aload B dL_crates_339 11 rfl ?_
        refine j_lconst B (v := 0) dL_crates_341 (by decide) ?_
        refine j_lawI B 4 [.ref (ad 0), .ref (ca 0), .ref (ca 1), .long 0] (c_L_areSame l hl D cD cC cI cZ cL A τ1 φ n ad ca f hg1 (hc0) 0 (pv_same0 hd (by clear B hret; grind) (fun _ => rfl))) q_429 q_430 q_0 q_431 hdL_areSame rfl ⟨Nat.le_of_ble_eq_true rfl, Nat.le_of_ble_eq_true rfl⟩ (Nat.le_of_ble_eq_true rfl) dL_crates_342 rfl (425) (2550) ⟨Nat.le_of_ble_eq_true rfl, Nat.le_of_ble_eq_true rfl⟩ ⟨Nat.le_of_ble_eq_true rfl, Nat.le_of_ble_eq_true rfl⟩ (fun r40 _ h41 => ?_)
        subst h41
        refine j_if_eq B 352 dL_crates_345 (by decide) (fun h42 => absurd h42 (by decide)) (fun h42 => ?_)
        refine j_iconst B (v := 1) dL_crates_348 (by decide) ?_
        refine j_goto B 353 dL_crates_349 (by decide) ?_
        exact hret 353 _ 1 (τ1, φ, f) (425) (2550) dL_crates_353 rfl (Nat.le_of_ble_eq_true rfl) (Nat.le_of_ble_eq_true rfl) ⟨rfl, show pvI n τ1 (φ) (f 0) (Bd + 1) from pvI_le (Bd := Bd) (by clear B hret; grind) (by omega)⟩
      · refine j_iload B dL_crates_312 1 rfl ?_
        refine j_if_ne B 354 dL_crates_314 (by decide) (fun h43 => absurd h43 (by decide)) (fun h43 => ?_)
        refine j_iload B dL_crates_317 0 rfl ?_
        refine j_iload B dL_crates_319 2 rfl ?_
        refine j_iload B dL_crates_321 4 rfl ?_
        refine j_icmp_ne B 331 dL_crates_323 (by decide) (fun h44 => ?_) (fun h44 => (by clear B hret; grind : False).elim)
        refine j_bipush B (v := (-8)) dL_crates_331 (by decide) ?_
        refine j_icmp_ne B 352 dL_crates_333 (by decide) (fun h45 => (by clear B hret; grind : False).elim) (fun h45 => ?_)
        refine j_aload_n B dL_crates_336 6 rfl rfl ?_
        refine j_aload B dL_crates_337 10 rfl ?_
        refine j_aload B dL_crates_339 11 rfl ?_
        refine j_lconst B (v := 0) dL_crates_341 (by decide) ?_
        refine j_lawI B 4 [.ref (ad 0), .ref (ca 0), .ref (ca 1), .long 0] (c_L_areSame l hl D cD cC cI cZ cL A τ1 φ n ad ca f hg1 (hc0) 0 (pv_same0 hd (by clear B hret; grind) (fun _ => rfl))) q_429 q_430 q_0 q_431 hdL_areSame rfl ⟨Nat.le_of_ble_eq_true rfl, Nat.le_of_ble_eq_true rfl⟩ (Nat.le_of_ble_eq_true rfl) dL_crates_342 rfl (425) (2550) ⟨Nat.le_of_ble_eq_true rfl, Nat.le_of_ble_eq_true rfl⟩ ⟨Nat.le_of_ble_eq_true rfl, Nat.le_of_ble_eq_true rfl⟩ (fun r46 _ h47 => ?_)
        subst h47
        refine j_if_eq B 352 dL_crates_345 (by decide) (fun h48 => absurd h48 (by decide)) (fun h48 => ?_)
        refine j_iconst B (v := 1) dL_crates_348 (by decide) ?_
        refine j_goto B 353 dL_crates_349 (by decide) ?_
        exact hret 353 _ 1 (τ1, φ, f) (425) (2550) dL_crates_353 rfl (Nat.le_of_ble_eq_true rfl) (Nat.le_of_ble_eq_true rfl) ⟨rfl, show pvI n τ1 (φ) (f 0) (Bd + 1) from pvI_le (Bd := Bd) (by clear B hret; grind) (by omega)⟩
  refine j_if_ge B 286 dL_crates_278 (by decide) (fun h49 => ?_) (fun h49 => ?_)
  · refine j_iconst B (v := 1) dL_crates_286 (by decide) ?_
    refine j_goto B 291 dL_crates_287 (by decide) ?_
    exact kj5 1 (Or.inl ⟨rfl, by clear B hret kj5; grind⟩)
  · refine j_iload B dL_crates_281 1 rfl ?_
    refine j_if_ne B 290 dL_crates_283 (by decide) (fun h50 => ?_) (fun h50 => ?_)
    · refine j_iconst B (v := 0) dL_crates_290 (by decide) ?_
      exact kj5 0 (Or.inr ⟨rfl, by clear B hret kj5; grind⟩)
    · refine j_iconst B (v := 1) dL_crates_286 (by decide) ?_
      refine j_goto B 291 dL_crates_287 (by decide) ?_
      exact kj5 1 (Or.inl ⟨rfl, by clear B hret kj5; grind⟩)
