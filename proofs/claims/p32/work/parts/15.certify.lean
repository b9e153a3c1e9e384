section PGCE
variable {σ : pgSt} {k v : Int32} {n i : Nat}
theorem pgCe_0 : σ = pgCe σ k v 0 := by
  funext t j
  simp [pgCe]
theorem pgCe_at {t j : Nat} (ht : t ≠ 9) : pgCe σ k v i t j = σ t j := by simp [pgCe, ht]
theorem pgCe_9 : pgCe σ k v i 9 i = σ 9 i := by simp [pgCe]
theorem pgCeM_aw (hi : i < n) : pgAw (pgCe σ k v (min i n)) i ↔ pgAw σ i := by
  rw [Nat.min_eq_left (by omega)]
  simp only [pgAw, pgFin, pgCe_at (show (4 : Nat) ≠ 9 by decide), pgCe_at (show (8 : Nat) ≠ 9 by decide), pgCe_at (show (5 : Nat) ≠ 9 by decide), pgCe_9]
theorem pgCeM_n (h : ¬ i < n) : pgCe σ k v (min i n) = pgCe σ k v (min (i + 1) n) := by
  rw [Nat.min_eq_right (by omega), Nat.min_eq_right (by omega)]
theorem pgCeM_f (hi : i < n) (h : ¬ (σ 2 i = k ∧ pgAw σ i)) : pgCe σ k v (min i n) = pgCe σ k v (min (i + 1) n) := by
  rw [Nat.min_eq_left (by omega), Nat.min_eq_left (by omega)]
  funext t j
  simp only [pgCe]
  by_cases hj : j = i
  · subst hj
    simp [h]
  · have q : (j < i + 1) = (j < i) := by apply propext; omega
    simp only [q]
theorem pgCeM_t (hi : i < n) (h : σ 2 i = k ∧ pgAw σ i) : pgU (pgCe σ k v (min i n)) 9 i v = pgCe σ k v (min (i + 1) n) := by
  rw [Nat.min_eq_left (by omega), Nat.min_eq_left (by omega)]
  funext t j
  simp only [pgCe, pgU]
  by_cases ht : t = 9
  · subst ht
    by_cases hj : j = i
    · subst hj
      simp [h]
    · have q : (j < i + 1) = (j < i) := by apply propext; omega
      simp [q, hj]
  · simp [ht]
theorem pgN_0 {P : Nat → Bool} : ∀ {m : Nat}, pgN P m = 0 → ∀ j, j < m → ¬ P j = true
  | 0, _, j, hj => by omega
  | m + 1, h, j, hj => by
    have h2 : pgN P m + (if P m = true then 1 else 0) = 0 := h
    by_cases e : j = m
    · subst e
      intro q
      rw [if_pos q] at h2
      omega
    · exact pgN_0 (m := m) (by omega) j (by omega)
theorem pgCe_none (h : pgCeN σ k n = 0) : pgCe σ k v n = σ := by
  funext t j
  simp only [pgCe]
  by_cases q : t = 9 ∧ j < n ∧ σ 2 j = k ∧ pgAw σ j
  · have := pgN_0 h j q.2.1
    simp only [decide_eq_true_eq] at this
    exact absurd q.2.2 this
  · rw [if_neg q]
theorem nI_z {m : Nat} (hm : m ≤ 60) (h : nI m = 0) : m = 0 := (nI_eq (a := m) (b := 0) (by omega) (by omega)).mp h
end PGCE
set_option maxHeartbeats 4000000 in
set_option maxRecDepth 100000 in
/-- certify -/
theorem c_X2_certify (l : Launch) (hl : l.stackTraces = false) (D : va_G) (cD cC cI cZ cL : ClassId) (A : Nat → Prop) (σ : pgSt) (n : Nat) (ad : Nat → Nat) (hI : pgI n σ) (k0 : Int32) : vx_Met l yX2_certify (.code yX2_certify cX2_certify 7 (some .int) :: pgWd) ({ frames := 7, cells := 2, slots := 12, locals := 102 } : Room) (pgPc D (pgTys cD cC cI cZ cL) A (pgR D cD cC A σ n ad) [.ref (ad 0), .int k0]) (va_Qi (fun (r : Int32) (_ : Unit) => (sp_certify σ k0).1 = 0 ∧ r = (sp_certify σ k0).2.1) (fun _ t9 => pgR D cD cC A ((sp_certify σ k0).2.2) n ad t9.heap) A) (pgX A (fun k => (sp_certify σ k0).1 = k ∧ k ≠ 0) (pgR D cD cC A σ n ad)) 2 12 A := by
  refine pg_enterX (own := RX2) (by decide) rfl (Nat.le_of_ble_eq_true rfl) (fun p e s m below meth cc9 B hr hnm ht => ?_)
  refine j_fact (fun H h => pgR.inA h) (fun hIn => ?_)
  refine j_iload_n B dX2_certify_0 1 rfl rfl ?_
  refine j_xSv B 1 [.int k0] ht (S := Unit) (WdC' := fun _ => pgR D cD cC A σ n ad)  (c_X2_requireKeeper l hl D cD cC cI cZ cL A σ n ad k0) q_83 q_84 q_1 q_85 hdX2_requireKeeper rfl ⟨Nat.le_of_ble_eq_true rfl, Nat.le_of_ble_eq_true rfl⟩ (Nat.le_of_ble_eq_true rfl) dX2_certify_1 rfl ⟨Nat.le_of_ble_eq_true rfl, Nat.le_of_ble_eq_true rfl⟩ (Nat.le_of_ble_eq_true rfl) (Nat.le_of_ble_eq_true rfl) (fun k h => by obtain ⟨rfl, h9⟩ := h; simp only [sp_certify]; grind) (fun H h => h) (fun u1 hp2 => ?_)
  refine j_iconst B (v := 0) dX2_certify_4 (by decide) ?_
  refine j_istore_n B (L' := [(2, .int 0), (0, .ref (ad 0)), (1, .int k0)]) dX2_certify_5 rfl (by decide) rfl ?_
  refine j_aload_n B dX2_certify_6 1 rfl rfl ?_
  refine j_get B (v := .ref (ad 1)) pgX2 rfl (fun H h => pgR.x h) 0 (by decide) q_47 rfl rfl dX2_certify_7 ?_
  refine j_astore_n B (L' := [(3, .ref (ad 1)), (2, .int 0), (0, .ref (ad 0)), (1, .int k0)]) dX2_certify_10 rfl (by decide) rfl ?_
  refine j_aload_n B dX2_certify_11 0 rfl rfl ?_
  refine j_alen B (fun H h => pgR.bd h) 0 rfl (v := 60) rfl dX2_certify_12 ?_
  refine j_istore B (L' := [(4, .int 60), (3, .ref (ad 1)), (2, .int 0), (0, .ref (ad 0)), (1, .int k0)]) dX2_certify_13 (by decide) rfl ?_
  refine j_iconst B (v := 0) dX2_certify_15 (by decide) ?_
  refine j_istore B (L' := [(5, .int 0), (4, .int 60), (3, .ref (ad 1)), (2, .int 0), (0, .ref (ad 0)), (1, .int k0)]) dX2_certify_16 (by decide) rfl ?_
  refine j_locals [0, 1, 2, 3, 5, 4] rfl ?_
  refine j_world (Wd' := pgR D cD cC A (pgCe σ k0 (σ 13 4) (min 0 n)) n ad) (fun H h => pgR.eq h (by rw [Nat.zero_min]; exact pgCe_0)) ?_
  refine j_loop (N := 60) (X := Int32) (fun i x => x = nI (pgN (fun j => decide (j < n ∧ (σ 2 j = k0 ∧ pgAw σ j))) i)) (fun i x => pgR D cD cC A (pgCe σ k0 (σ 13 4) (min i n)) n ad) (fun i x => [(5, .int (nI i)), (4, .int 60), (3, .ref (ad 1)), (2, .int x), (1, .int k0), (0, .ref (ad 0))]) (fun i x hi hv ih => ?_) 0 0 (by omega) rfl
  refine j_iload B dX2_certify_18 0 rfl ?_
  refine j_iload B dX2_certify_20 1 rfl ?_
  refine j_icmp_ge B 71 dX2_certify_22 (by decide) (fun h3 => ?_) (fun h3 => ?_)
  · obtain rfl := pg_eqN hi (by omega) h3
    refine j_world (Wd' := pgR D cD cC A (pgCe σ k0 (σ 13 4) n) n ad) (fun H h => pgR.eq h (congrArg _ (Nat.min_eq_right hI.1))) ?_
    have hv0 : x = nI (pgCeN σ k0 n) := hv.trans (congrArg nI (pgN_60 (Q := fun j => σ 2 j = k0 ∧ pgAw σ j) _ hI.1))
    have hc0 : pgCeN σ k0 n ≤ 60 := Nat.le_trans (pgN_le _ _) hI.1
    refine j_iload_n B dX2_certify_71 3 rfl rfl ?_
    refine j_if_ne B 85 dX2_certify_72 (by decide) (fun h4 => ?_) (fun h4 => ?_)
    · refine j_aload_n B dX2_certify_85 5 rfl rfl ?_
      refine j_dup B dX2_certify_86 rfl ?_
      refine j_get B (v := .int ((pgCe σ k0 (σ 13 4) n) 13 4)) pgX2 rfl (fun H h => pgR.x h) 6 (by decide) q_53 rfl rfl dX2_certify_87 ?_
      refine j_iconst B (v := 1) dX2_certify_90 (by decide) ?_
      refine j_iadd B dX2_certify_91 ?_
      refine j_put B (Wd' := pgR D cD cC A (pgU (pgCe σ k0 (σ 13 4) n) 13 4 (((pgCe σ k0 (σ 13 4) n) 13 4) + 1)) n ad) pgX2 tyX2 tyX2_ok nmX2 rfl (fun H h => pgR.x h) 6 (by decide) q_53 rfl rfl rfl rfl rfl (Nat.le_of_ble_eq_true rfl) dX2_certify_92 (hIn 0 (by omega)) (fun H H1 h hc hz ho => pgR.putX h pgXs6 hc ho) ?_
      refine j_iload_n B dX2_certify_95 3 rfl rfl ?_
      have hn7 := pgI_n hI
      have hnz : ¬ pgCeN σ k0 n = 0 := fun z => by rw [z] at hv0; exact absurd hv0 (by assumption)
      have e9 : sp_certify σ k0 = (0, x, pgU (pgCe σ k0 (σ 13 4) n) 13 4 (σ 13 4 + 1)) := by
        rw [hv0]
        simp only [sp_certify, hn7]
        grind
      exact j_x (j_iret B hr rfl dX2_certify_96 (Nat.le_of_ble_eq_true rfl) (Nat.le_of_ble_eq_true rfl) () ⟨by rw [e9], by rw [e9]⟩ (fun H h => pgR.eq h (by rw [e9]; rfl)))
    · have hz0 : pgCeN σ k0 n = 0 := nI_z hc0 (by rw [← hv0]; assumption)
      exact j_throwN q_413 q_10 B hl ht (is := 172) (text := "no disk would be on the certificate") (by decide) dX2_certify_75 dX2_certify_78 dX2_certify_79 dX2_certify_81 dX2_certify_84 (Nat.le_of_ble_eq_true rfl) (Nat.le_of_ble_eq_true rfl) (Nat.le_of_ble_eq_true rfl) (Nat.le_of_ble_eq_true rfl) (Nat.le_of_ble_eq_true rfl) (Nat.le_of_ble_eq_true rfl) (by have hn7 := pgI_n hI; simp only [sp_certify, hn7]; grind) (fun H H1 h hq => pgR.more (pgR.eq h (pgCe_none hz0)) hq)
  · have hlt := pg_ltN (N := 60) (by omega) hi h3
    refine j_aload_n B dX2_certify_25 2 rfl rfl ?_
    refine j_iload B dX2_certify_26 0 rfl ?_
    refine j_aald B (fun H h => pgR.bd h) 0 rfl (vp_in_nI hlt (by omega)) dX2_certify_28 (fun h5 => ?_) (fun y6 h5 => ?_)
    · have nh5 := pgBd_nI hlt h5
      refine j_astoreN B (L' := [(6, .null), (5, .int (nI i)), (4, .int 60), (3, .ref (ad 1)), (2, .int x), (1, .int k0), (0, .ref (ad 0))]) dX2_certify_29 (by decide) rfl ?_
      refine j_aloadN B dX2_certify_31 0 rfl ?_
      refine j_ifnullN B 65 dX2_certify_33 (by decide) ?_
      refine j_iinc B (v := nI (i + 1)) (L' := [(5, .int (nI (i + 1))), (6, .null), (4, .int 60), (3, .ref (ad 1)), (2, .int x), (1, .int k0), (0, .ref (ad 0))]) dX2_certify_65 1 rfl (nI_1 i) (by decide) rfl ?_
      refine j_goto B 18 dX2_certify_68 (by decide) ?_
      refine j_locals [0, 2, 3, 4, 5, 6] rfl ?_
      exact j_world (fun H h => pgR.eq h (pgCeM_n (by assumption))) (ih hlt _ (pgN_f2 hv (fun q => absurd (of_decide_eq_true q).1 (by assumption))))
    · obtain ⟨jh5, rfl⟩ := pgBd_sI hlt h5
      refine j_astore B (L' := [(6, .ref (ad (13 + i))), (5, .int (nI i)), (4, .int 60), (3, .ref (ad 1)), (2, .int x), (1, .int k0), (0, .ref (ad 0))]) dX2_certify_29 (by decide) rfl ?_
      refine j_aload B dX2_certify_31 0 rfl ?_
      refine j_ifnull B dX2_certify_33 ?_
      refine j_aload B dX2_certify_36 0 rfl ?_
      refine j_get B (v := .int ((pgCe σ k0 (σ 13 4) (min i n)) 2 i)) pgX1 rfl (fun H h => pgR.dk h jh5) 2 (by decide) q_198 rfl rfl dX2_certify_38 ?_
      refine j_iload_n B dX2_certify_41 5 rfl rfl ?_
      refine j_icmp_ne B 65 dX2_certify_42 (by decide) (fun h7 => ?_) (fun h7 => ?_)
      · rw [pgCe_at (by decide)] at h7
        refine j_iinc B (v := nI (i + 1)) (L' := [(5, .int (nI (i + 1))), (6, .ref (ad (13 + i))), (4, .int 60), (3, .ref (ad 1)), (2, .int x), (1, .int k0), (0, .ref (ad 0))]) dX2_certify_65 1 rfl (nI_1 i) (by decide) rfl ?_
        refine j_goto B 18 dX2_certify_68 (by decide) ?_
        refine j_locals [0, 2, 3, 4, 5, 6] rfl ?_
        have z : ¬ (σ 2 i = k0 ∧ pgAw σ i) := fun q => absurd q.1 (by assumption)
        exact j_world (fun H h => pgR.eq h (pgCeM_f (by assumption) z)) (ih hlt _ (pgN_f2 hv (fun q => z (of_decide_eq_true q).2)))
      · rw [pgCe_at (by decide)] at h7
        refine j_aload B dX2_certify_45 0 rfl ?_
        refine j_cVi B (S := Unit) 0 [] (WdC' := fun _ => pgR D cD cC A (pgCe σ k0 (σ 13 4) (min i n)) n ad) (fun _ => pgR D cD cC A (pgCe σ k0 (σ 13 4) (min i n)) n ad) (c_X1_awaitsCertificate l D cD cC cI cZ cL A (pgCe σ k0 (σ 13 4) (min i n)) n ad i jh5) rfl (fun H h => pgR.dk h jh5) q_408 q_409 q_410 q_9 q_411 hdX1_awaitsCertificate rfl ⟨Nat.le_of_ble_eq_true rfl, Nat.le_of_ble_eq_true rfl⟩ (Nat.le_of_ble_eq_true rfl) dX2_certify_47 rfl ⟨Nat.le_of_ble_eq_true rfl, Nat.le_of_ble_eq_true rfl⟩ (fun _ h => h) (fun _ _ _ _ h => h) (fun _ h => h) (fun _ _ _ _ h _ _ => h) (fun r8 _ hp9 => ?_)
        by_cases h10 : pgAw (pgCe σ k0 (σ 13 4) (min i n)) i
        · obtain rfl : r8 = 1 := by rw [hp9]; exact if_pos h10
          refine j_if_eq B 65 dX2_certify_50 (by decide) (fun h11 => (absurd h11 (by decide))) (fun h11 => ?_)
          refine j_aload B dX2_certify_53 0 rfl ?_
          refine j_aload_n B dX2_certify_55 6 rfl rfl ?_
          refine j_get B (v := .int ((pgCe σ k0 (σ 13 4) (min i n)) 13 4)) pgX2 rfl (fun H h => pgR.x h) 6 (by decide) q_53 rfl rfl dX2_certify_56 ?_
          refine j_put B (Wd' := pgR D cD cC A (pgU (pgCe σ k0 (σ 13 4) (min i n)) 9 i ((pgCe σ k0 (σ 13 4) (min i n)) 13 4)) n ad) pgX1 tyX1 tyX1_ok nmX1 rfl (fun H h => pgR.dk h jh5) 10 (by decide) q_213 rfl rfl rfl rfl rfl (Nat.le_of_ble_eq_true rfl) dX2_certify_59 (hIn (13 + i) (by omega)) (fun H H1 h hc hz ho => pgR.putD h jh5 (by decide) pgDs10 hc ho) ?_
          refine j_iinc B (v := (x + 1)) (L' := [(2, .int (x + 1)), (6, .ref (ad (13 + i))), (5, .int (nI i)), (4, .int 60), (3, .ref (ad 1)), (1, .int k0), (0, .ref (ad 0))]) dX2_certify_62 4 rfl rfl (by decide) rfl ?_
          refine j_iinc B (v := nI (i + 1)) (L' := [(5, .int (nI (i + 1))), (2, .int (x + 1)), (6, .ref (ad (13 + i))), (4, .int 60), (3, .ref (ad 1)), (1, .int k0), (0, .ref (ad 0))]) dX2_certify_65 2 rfl (nI_1 i) (by decide) rfl ?_
          refine j_goto B 18 dX2_certify_68 (by decide) ?_
          refine j_locals [0, 3, 4, 1, 5, 6] rfl ?_
          have z : σ 2 i = k0 ∧ pgAw σ i := ⟨by assumption, (pgCeM_aw (k := k0) (v := σ 13 4) (by assumption)).mp (by assumption)⟩
          exact j_world (fun H h => pgR.eq h (pgCeM_t (by assumption) z)) (ih hlt _ (pgN_t2 hv (decide_eq_true ⟨by assumption, z⟩)))
        · obtain rfl : r8 = 0 := by rw [hp9]; exact if_neg h10
          refine j_if_eq B 65 dX2_certify_50 (by decide) (fun h12 => ?_) (fun h12 => (absurd (by decide) h12))
          refine j_iinc B (v := nI (i + 1)) (L' := [(5, .int (nI (i + 1))), (6, .ref (ad (13 + i))), (4, .int 60), (3, .ref (ad 1)), (2, .int x), (1, .int k0), (0, .ref (ad 0))]) dX2_certify_65 1 rfl (nI_1 i) (by decide) rfl ?_
          refine j_goto B 18 dX2_certify_68 (by decide) ?_
          refine j_locals [0, 2, 3, 4, 5, 6] rfl ?_
          have z : ¬ (σ 2 i = k0 ∧ pgAw σ i) := fun q => absurd ((pgCeM_aw (k := k0) (v := σ 13 4) (by assumption)).mpr q.2) (by assumption)
          exact j_world (fun H h => pgR.eq h (pgCeM_f (by assumption) z)) (ih hlt _ (pgN_f2 hv (fun q => z (of_decide_eq_true q).2)))
