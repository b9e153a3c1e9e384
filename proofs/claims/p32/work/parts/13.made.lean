set_option maxHeartbeats 4000000 in
set_option maxRecDepth 100000 in
/-- Shredroll$Crate() -/
theorem c_X0_init (l : Launch) (D : va_G) (cD cC cI cZ cL : ClassId) (A : Nat → Prop) (q : Nat) (hAq : A q) (i : Int32) : Met l yX0_init (.code yX0_init cX0_init 2 none :: pgWd) ({ frames := 1, cells := 0, slots := 0, locals := 12 } : Room) (pgPc D (pgTys cD cC cI cZ cL) A (fun H => va_at D vwCl (q, .inr (0, [.int 0, .int 0, .int 0, .int 0])) H) [.ref q, .int i]) (va_Qv (fun (_ : Unit) => True) (fun _ t9 => (fun H => va_at D vwCl (q, .inr (0, [.int i, .int 0, .int (-1), .int 0])) H) t9.heap) A) 0 0 A := by
  refine pg_enter (own := RX0) (by decide) rfl (Nat.le_of_ble_eq_true rfl) (fun p e s m below meth cc9 B hr hnm => ?_)
  refine j_aload_n B dX0_init_0 0 rfl rfl ?_
  refine j_objInit B q_30 q_20 q_21 dX0_init_1 (Nat.le_of_ble_eq_true rfl) (Nat.le_of_ble_eq_true rfl) ?_
  refine j_aload_n B dX0_init_4 0 rfl rfl ?_
  refine j_iconst B (v := (-1)) dX0_init_5 (by decide) ?_
  refine j_put B (Wd' := fun H => va_at D vwCl (q, .inr (0, [.int 0, .int 0, .int (-1), .int 0])) H) pgX0 tyX0 tyX0_ok nmX0 rfl (fun H h => h) 2 (by decide) q_35 rfl rfl rfl rfl rfl (Nat.le_of_ble_eq_true rfl) dX0_init_6 hAq (fun H H1 h hc hz ho => hc) ?_
  refine j_aload_n B dX0_init_9 0 rfl rfl ?_
  refine j_iload_n B dX0_init_10 1 rfl rfl ?_
  refine j_putF B (Wd' := fun H => va_at D vwCl (q, .inr (0, [.int i, .int 0, .int (-1), .int 0])) H) pgX0 tyX0 tyX0_ok nmX0 rfl (fun H h => h) 0 (by decide) q_31 rfl rfl hnm rfl rfl rfl rfl (Nat.le_of_ble_eq_true rfl) dX0_init_11 hAq (fun H H1 h hc hz ho => hc) ?_
  exact j_vret B hr dX0_init_14 (Nat.le_of_ble_eq_true rfl) (Nat.le_of_ble_eq_true rfl) () trivial (fun H h => h)
set_option maxHeartbeats 4000000 in
set_option maxRecDepth 100000 in
/-- Shredroll$Disk() -/
theorem c_X1_init (l : Launch) (D : va_G) (cD cC cI cZ cL : ClassId) (A : Nat → Prop) (q : Nat) (hAq : A q) (k0 k1 : Int32) : Met l yX1_init (.code yX1_init cX1_init 3 none :: pgWd) ({ frames := 1, cells := 0, slots := 0, locals := 12 } : Room) (pgPc D (pgTys cD cC cI cZ cL) A (fun H => va_at D vwCl (q, .inr (1, [.int 0, .int 0, .int 0, .int 0, .null, .int 0, .int 0, .int 0, .int 0, .int 0, .int 0])) H) [.ref q, .int k0, .int k1]) (va_Qv (fun (_ : Unit) => True) (fun _ t9 => (fun H => va_at D vwCl (q, .inr (1, [.int k0, .int k1, .int 0, .int 0, .null, .int (-1), .int 0, .int (-1), .int 0, .int 0, .int (-1)])) H) t9.heap) A) 0 0 A := by
  refine pg_enter (own := RX1) (by decide) rfl (Nat.le_of_ble_eq_true rfl) (fun p e s m below meth cc9 B hr hnm => ?_)
  refine j_aload_n B dX1_init_0 0 rfl rfl ?_
  refine j_objInit B q_193 q_20 q_21 dX1_init_1 (Nat.le_of_ble_eq_true rfl) (Nat.le_of_ble_eq_true rfl) ?_
  refine j_aload_n B dX1_init_4 0 rfl rfl ?_
  refine j_iconst B (v := (-1)) dX1_init_5 (by decide) ?_
  refine j_put B (Wd' := fun H => va_at D vwCl (q, .inr (1, [.int 0, .int 0, .int 0, .int 0, .null, .int (-1), .int 0, .int 0, .int 0, .int 0, .int 0])) H) pgX1 tyX1 tyX1_ok nmX1 rfl (fun H h => h) 5 (by decide) q_202 rfl rfl rfl rfl rfl (Nat.le_of_ble_eq_true rfl) dX1_init_6 hAq (fun H H1 h hc hz ho => hc) ?_
  refine j_aload_n B dX1_init_9 0 rfl rfl ?_
  refine j_iconst B (v := 0) dX1_init_10 (by decide) ?_
  refine j_put B (Wd' := fun H => va_at D vwCl (q, .inr (1, [.int 0, .int 0, .int 0, .int 0, .null, .int (-1), .int 0, .int 0, .int 0, .int 0, .int 0])) H) pgX1 tyX1 tyX1_ok nmX1 rfl (fun H h => h) 6 (by decide) q_204 rfl rfl rfl rfl rfl (Nat.le_of_ble_eq_true rfl) dX1_init_11 hAq (fun H H1 h hc hz ho => hc) ?_
  refine j_aload_n B dX1_init_14 0 rfl rfl ?_
  refine j_iconst B (v := (-1)) dX1_init_15 (by decide) ?_
  refine j_put B (Wd' := fun H => va_at D vwCl (q, .inr (1, [.int 0, .int 0, .int 0, .int 0, .null, .int (-1), .int 0, .int (-1), .int 0, .int 0, .int 0])) H) pgX1 tyX1 tyX1_ok nmX1 rfl (fun H h => h) 7 (by decide) q_206 rfl rfl rfl rfl rfl (Nat.le_of_ble_eq_true rfl) dX1_init_16 hAq (fun H H1 h hc hz ho => hc) ?_
  refine j_aload_n B dX1_init_19 0 rfl rfl ?_
  refine j_iconst B (v := (-1)) dX1_init_20 (by decide) ?_
  refine j_put B (Wd' := fun H => va_at D vwCl (q, .inr (1, [.int 0, .int 0, .int 0, .int 0, .null, .int (-1), .int 0, .int (-1), .int 0, .int 0, .int (-1)])) H) pgX1 tyX1 tyX1_ok nmX1 rfl (fun H h => h) 10 (by decide) q_212 rfl rfl rfl rfl rfl (Nat.le_of_ble_eq_true rfl) dX1_init_21 hAq (fun H H1 h hc hz ho => hc) ?_
  refine j_aload_n B dX1_init_24 0 rfl rfl ?_
  refine j_iload_n B dX1_init_25 1 rfl rfl ?_
  refine j_putF B (Wd' := fun H => va_at D vwCl (q, .inr (1, [.int k0, .int 0, .int 0, .int 0, .null, .int (-1), .int 0, .int (-1), .int 0, .int 0, .int (-1)])) H) pgX1 tyX1 tyX1_ok nmX1 rfl (fun H h => h) 0 (by decide) q_194 rfl rfl hnm rfl rfl rfl rfl (Nat.le_of_ble_eq_true rfl) dX1_init_26 hAq (fun H H1 h hc hz ho => hc) ?_
  refine j_aload_n B dX1_init_29 0 rfl rfl ?_
  refine j_iload_n B dX1_init_30 2 rfl rfl ?_
  refine j_putF B (Wd' := fun H => va_at D vwCl (q, .inr (1, [.int k0, .int k1, .int 0, .int 0, .null, .int (-1), .int 0, .int (-1), .int 0, .int 0, .int (-1)])) H) pgX1 tyX1 tyX1_ok nmX1 rfl (fun H h => h) 1 (by decide) q_196 rfl rfl hnm rfl rfl rfl rfl (Nat.le_of_ble_eq_true rfl) dX1_init_31 hAq (fun H H1 h hc hz ho => hc) ?_
  exact j_vret B hr dX1_init_34 (Nat.le_of_ble_eq_true rfl) (Nat.le_of_ble_eq_true rfl) () trivial (fun H h => h)
theorem j_re {p : Program} {l : Launch} {e : Env} {R : Room} {s : State} {m : MethodId} {args : Array Value} {below : List Frame} {meth : Method} {c : Code} {nL : Nat} {A : Nat → Prop} {Wd : Heap → Prop} {cells slots : Nat} {Q : State → Prop} {pc : Nat} {L L' : List (Nat × Value)} {st : List Value} (h : L = L') (kk : pgJ p l e R s m args below meth c nL A Wd cells slots Q pc L' st) : pgJ p l e R s m args below meth c nL A Wd cells slots Q pc L st := h ▸ kk
/-- a new disk's places -/
def pgNewD (σ : pgSt) (n : Nat) (kind secr : Int32) : pgSt := fun t j => if (t < 10 ∨ t = 14) ∧ j = n then (if t = 0 then kind else if t = 1 then secr else if t = 3 ∨ t = 6 ∨ t = 7 ∨ t = 9 then -1 else 0) else σ t j
section PGD
variable {D : va_G} {cD cC : ClassId} {A : Nat → Prop} {σ : pgSt} {n : Nat} {ad : Nat → Nat} {H H1 : Heap} {q : Nat} {x : va_E} {kind secr : Int32}
theorem pgFresh_R (h : pgFresh D (pgR D cD cC A σ n ad) q x H) : pgR D cD cC A σ n ad H ∧ va_at D vwCl (q, x) H ∧ ∀ k, k < 13 + n → ad k ≠ q := by
  obtain ⟨H0, h0, e0, -, ho, hx⟩ := h
  refine ⟨h0.more (fun z hz => ho z (by omega)), hx, fun k hk => ?_⟩
  have := h0.lt hk
  omega
theorem pgNewD_o {t j : Nat} (h : j ≠ n) : pgNewD σ n kind secr t j = σ t j := by simp [pgNewD, h]
theorem pgNewD_t {t j : Nat} (h : ¬ (t < 10 ∨ t = 14)) : pgNewD σ n kind secr t j = σ t j := by simp [pgNewD, h]
theorem pgR.push (h : pgR D cD cC A σ n ad H) (hn : n < 60) (hcr : pgCr n σ) (hq : va_at D vwCl (q, .inr (1, [.int kind, .int secr, .int 0, .int 0, .null, .int (-1), .int 0, .int (-1), .int 0, .int 0, .int (-1)])) H) (hne : ∀ k, k < 13 + n → ad k ≠ q) (hA : A q)
    (hb : va_at D vwCl (ad 1, .inl (cD, 60, .inr (.inr (.inr (.inr (va_up (pgBd n ad) n (some q))))))) H1) (ho : ∀ z : Nat, z ≠ ad 1 → H1[z]? = H[z]?) : pgR D cD cC A (pgNewD σ n kind secr) (n + 1) (va_up ad (13 + n) q) H1 := by
  have old : ∀ k, k < 13 + n → va_up ad (13 + n) q k = ad k := fun k hk => va_up_ne _ _ (by omega)
  have new : va_up ad (13 + n) q (13 + n) = q := va_up_self _ _ _
  refine ⟨fun k hk => ?_, fun a b ha hb2 hab => ?_, fun k hk => ?_⟩
  · by_cases e : k = 13 + n
    · subst e
      rw [new, pgO_dk]
      have hz : q ≠ ad 1 := fun z => hne 1 (by omega) z.symm
      have h2 := hq.kept (H1 := H1) (ho q hz)
      have e2 : pgDv (va_up ad (13 + n) q) (pgNewD σ n kind secr) n = [.int kind, .int secr, .int 0, .int 0, .null, .int (-1), .int 0, .int (-1), .int 0, .int 0, .int (-1)] := by
        simp [pgNewD, pgCv]
      rw [e2]
      exact h2
    · have hk2 : k < 13 + n := by omega
      rw [old k hk2]
      by_cases e1 : k = 1
      · subst e1
        have e3 : pgO cD cC (pgNewD σ n kind secr) (n + 1) (va_up ad (13 + n) q) 1 = .inl (cD, 60, .inr (.inr (.inr (.inr (pgBd (n + 1) (va_up ad (13 + n) q)))))) := rfl
        rw [e3]
        refine pg_refs hb (fun j hj => ?_)
        unfold pgBd va_up
        by_cases ej : j = n
        · subst ej
          simp
        · have e4 : 13 + j ≠ 13 + n := by omega
          have e5 : (j < n + 1) = (j < n) := by apply propext; omega
          simp only [ej, e4, e5, if_false]
      · have hka : ad k ≠ ad 1 := fun z => e1 (h.2.1 k 1 hk2 (by omega) z)
        have h3 := (h.1 k hk2).kept (H1 := H1) (ho _ hka)
        by_cases e0 : k = 0
        · subst e0
          have e6 : pgO cD cC (pgNewD σ n kind secr) (n + 1) (va_up ad (13 + n) q) 0 = pgO cD cC σ n ad 0 := by
            show Sum.inr (2, pgXv _ _) = Sum.inr (2, pgXv _ _)
            simp only [pgXv, old 1 (by omega), old 2 (by omega), pgNewD_t (show ¬ (13 < 10 ∨ 13 = 14) by omega)]
          rw [e6]
          exact h3
        · by_cases e2 : k = 2
          · subst e2
            have e7 : pgO cD cC (pgNewD σ n kind secr) (n + 1) (va_up ad (13 + n) q) 2 = .inl (cC, 10, .inr (.inr (.inr (.inr (fun i => some (va_up ad (13 + n) q (3 + i))))))) := rfl
            have e8 : pgO cD cC σ n ad 2 = .inl (cC, 10, .inr (.inr (.inr (.inr (fun i => some (ad (3 + i))))))) := rfl
            rw [e7]
            rw [e8] at h3
            exact pg_refs h3 (fun j hj => by rw [old (3 + j) (by omega)])
          · by_cases e3 : k < 13
            · have e9 : pgO cD cC (pgNewD σ n kind secr) (n + 1) (va_up ad (13 + n) q) k = pgO cD cC σ n ad k := by
                unfold pgO
                simp only [if_neg e0, if_neg e1, if_neg e2, if_pos e3, pgKv, pgNewD_t (show ¬ (10 < 10 ∨ 10 = 14) by omega), pgNewD_t (show ¬ (11 < 10 ∨ 11 = 14) by omega), pgNewD_t (show ¬ (12 < 10 ∨ 12 = 14) by omega)]
              rw [e9]
              exact h3
            · have hj : k - 13 < n := by omega
              have hjn : k - 13 ≠ n := by omega
              have ecv : pgCv (va_up ad (13 + n) q) (σ 3 (k - 13)) = pgCv ad (σ 3 (k - 13)) := by
                rcases hcr _ hj with z | ⟨c, hc, z⟩
                · rw [pgCv_null z, pgCv_null z]
                · rw [pgCv_ref hc z, pgCv_ref hc z, old (3 + c) (by omega)]
              have e9 : pgO cD cC (pgNewD σ n kind secr) (n + 1) (va_up ad (13 + n) q) k = pgO cD cC σ n ad k := by
                unfold pgO
                simp only [if_neg e0, if_neg e1, if_neg e2, if_neg e3, pgDv, pgNewD_o hjn, ecv]
              rw [e9]
              exact h3
  · by_cases ea : a = 13 + n <;> by_cases eb : b = 13 + n
    · omega
    · rw [ea, new, old b (by omega)] at hab
      exact absurd hab.symm (hne b (by omega))
    · rw [eb, new, old a (by omega)] at hab
      exact absurd hab (hne a (by omega))
    · rw [old a (by omega), old b (by omega)] at hab
      exact h.2.1 a b (by omega) (by omega) hab
  · by_cases e : k = 13 + n
    · rw [e, new]; exact hA
    · rw [old k (by omega)]; exact h.2.2 k (by omega)
end PGD
theorem sp_bring_eq {n : Nat} {σ : pgSt} {kind secr keeper : Int32} (hI : pgI n σ) (hk : pgIsK keeper) (h1 : 0 ≤ kind ∧ kind < 3 ∧ 0 ≤ secr ∧ secr < 4) (h2 : σ 13 0 < 60) : sp_bring σ kind secr keeper = (0, σ 13 0, pgHo (pgU (pgNewD σ n kind secr) 13 0 (σ 13 0 + 1)) n keeper) := by
  have hn : ix (σ 13 0) = n := pgI_n hI
  have hz := hI.2.2.2.2.1 n (Nat.le_refl n)
  unfold sp_bring
  rw [if_neg (by simpa using hk), if_neg (by simpa using h1), if_neg (by simpa using h2)]
  congr 2
  funext t j
  simp only [hn, pgHo, pgU, pgNewD]
  grind (splits := 40)
theorem pgI_0 {n : Nat} {σ : pgSt} (hI : pgI n σ) : ¬ σ 13 0 < 0 := by
  rw [hI.2.1]
  exact nI_pos (by have := hI.1; omega)
set_option maxHeartbeats 4000000 in
set_option maxRecDepth 100000 in
/-- bring -/
theorem c_X2_bring (l : Launch) (hl : l.stackTraces = false) (D : va_G) (cD cC cI cZ cL : ClassId) (A : Nat → Prop) (σ : pgSt) (n : Nat) (ad : Nat → Nat) (hI : pgI n σ) (kind secr keeper : Int32) : vx_Met l yX2_bring (.code yX2_bring cX2_bring 6 (some .int) :: pgWd) ({ frames := 7, cells := 3, slots := 23, locals := 102 } : Room) (pgPc D (pgTys cD cC cI cZ cL) A (pgR D cD cC A σ n ad) [.ref (ad 0), .int kind, .int secr, .int keeper]) (va_Qi (fun (r : Int32) (u : Nat → Nat) => (sp_bring σ kind secr keeper).1 = 0 ∧ r = (sp_bring σ kind secr keeper).2.1 ∧ u 0 = ad 0) (fun u t9 => pgR D cD cC A ((sp_bring σ kind secr keeper).2.2) (n + 1) u t9.heap) A) (pgX A (fun k => (sp_bring σ kind secr keeper).1 = k ∧ k ≠ 0) (pgR D cD cC A σ n ad)) 3 23 A := by
  refine pg_enterX (own := RX2) (by decide) rfl (Nat.le_of_ble_eq_true rfl) (fun p e s m below meth cc9 B hr hnm ht => ?_)
  refine j_fact (fun H h => pgR.inA h) (fun hIn => ?_)
  refine j_iload_n B dX2_bring_0 3 rfl rfl ?_
  refine j_xSv B 1 [.int keeper] ht (S := Unit) (WdC' := fun _ => pgR D cD cC A σ n ad)  (c_X2_requireKeeper l hl D cD cC cI cZ cL A σ n ad keeper) q_83 q_84 q_1 q_85 hdX2_requireKeeper rfl ⟨Nat.le_of_ble_eq_true rfl, Nat.le_of_ble_eq_true rfl⟩ (Nat.le_of_ble_eq_true rfl) dX2_bring_1 rfl ⟨Nat.le_of_ble_eq_true rfl, Nat.le_of_ble_eq_true rfl⟩ (Nat.le_of_ble_eq_true rfl) (Nat.le_of_ble_eq_true rfl) (fun k h => by obtain ⟨rfl, h9⟩ := h; simp only [sp_bring]; grind) (fun H h => h) (fun u1 hp2 => ?_)
  refine j_iload_n B dX2_bring_4 1 rfl rfl ?_
  refine j_if_lt B 22 dX2_bring_5 (by decide) (fun h3 => ?_) (fun h3 => ?_)
  · exact j_throw (k := 2) pgTA pgTA2 pgTA3 rfl q_157 q_7 rfl B hl ht (is := 29) (text := "kind or secrecy is out of range") (by decide) dX2_bring_22 dX2_bring_25 dX2_bring_26 dX2_bring_28 dX2_bring_31 (Nat.le_of_ble_eq_true rfl) (Nat.le_of_ble_eq_true rfl) (Nat.le_of_ble_eq_true rfl) (Nat.le_of_ble_eq_true rfl) (Nat.le_of_ble_eq_true rfl) (Nat.le_of_ble_eq_true rfl) (by simp only [sp_bring]; grind) (fun H H1 h hq => pgR.more h hq)
  · refine j_iload_n B dX2_bring_8 1 rfl rfl ?_
    refine j_iconst B (v := 3) dX2_bring_9 (by decide) ?_
    refine j_icmp_ge B 22 dX2_bring_10 (by decide) (fun h4 => ?_) (fun h4 => ?_)
    · exact j_throw (k := 2) pgTA pgTA2 pgTA3 rfl q_157 q_7 rfl B hl ht (is := 29) (text := "kind or secrecy is out of range") (by decide) dX2_bring_22 dX2_bring_25 dX2_bring_26 dX2_bring_28 dX2_bring_31 (Nat.le_of_ble_eq_true rfl) (Nat.le_of_ble_eq_true rfl) (Nat.le_of_ble_eq_true rfl) (Nat.le_of_ble_eq_true rfl) (Nat.le_of_ble_eq_true rfl) (Nat.le_of_ble_eq_true rfl) (by simp only [sp_bring]; grind) (fun H H1 h hq => pgR.more h hq)
    · refine j_iload_n B dX2_bring_13 2 rfl rfl ?_
      refine j_if_lt B 22 dX2_bring_14 (by decide) (fun h5 => ?_) (fun h5 => ?_)
      · exact j_throw (k := 2) pgTA pgTA2 pgTA3 rfl q_157 q_7 rfl B hl ht (is := 29) (text := "kind or secrecy is out of range") (by decide) dX2_bring_22 dX2_bring_25 dX2_bring_26 dX2_bring_28 dX2_bring_31 (Nat.le_of_ble_eq_true rfl) (Nat.le_of_ble_eq_true rfl) (Nat.le_of_ble_eq_true rfl) (Nat.le_of_ble_eq_true rfl) (Nat.le_of_ble_eq_true rfl) (Nat.le_of_ble_eq_true rfl) (by simp only [sp_bring]; grind) (fun H H1 h hq => pgR.more h hq)
      · refine j_iload_n B dX2_bring_17 2 rfl rfl ?_
        refine j_iconst B (v := 4) dX2_bring_18 (by decide) ?_
        refine j_icmp_lt B 32 dX2_bring_19 (by decide) (fun h6 => ?_) (fun h6 => ?_)
        · refine j_aload_n B dX2_bring_32 0 rfl rfl ?_
          refine j_get B (v := .int (σ 13 0)) pgX2 rfl (fun H h => pgR.x h) 2 (by decide) q_49 rfl rfl dX2_bring_33 ?_
          refine j_if_lt B 51 dX2_bring_36 (by decide) (fun h7 => (absurd h7 (pgI_0 hI))) (fun h7 => ?_)
          refine j_aload_n B dX2_bring_39 0 rfl rfl ?_
          refine j_get B (v := .int (σ 13 0)) pgX2 rfl (fun H h => pgR.x h) 2 (by decide) q_49 rfl rfl dX2_bring_40 ?_
          refine j_aload_n B dX2_bring_43 0 rfl rfl ?_
          refine j_get B (v := .ref (ad 1)) pgX2 rfl (fun H h => pgR.x h) 0 (by decide) q_47 rfl rfl dX2_bring_44 ?_
          refine j_alen B (fun H h => pgR.bd h) 0 rfl (v := 60) rfl dX2_bring_47 ?_
          refine j_icmp_lt B 61 dX2_bring_48 (by decide) (fun h8 => ?_) (fun h8 => ?_)
          · have hn60 : n < 60 := by
              have q1 : nI n < nI 60 := by rw [← hI.2.1]; assumption
              exact (nI_ltI (a := n) (b := 60) (by have := hI.1; omega) (by omega)).mp q1
            refine j_new B (ci := 1) (fs := [.int 0, .int 0, .int 0, .int 0, .null, .int 0, .int 0, .int 0, .int 0, .int 0, .int 0]) pgX1 tyX1 tyX1_ok q_22 q_189 q_9 rfl (fun j hj => by rcases (show j = 0 ∨ j = 1 ∨ j = 2 ∨ j = 3 ∨ j = 4 ∨ j = 5 ∨ j = 6 ∨ j = 7 ∨ j = 8 ∨ j = 9 ∨ j = 10 by omega) with rfl | rfl | rfl | rfl | rfl | rfl | rfl | rfl | rfl | rfl | rfl <;> rfl) (Nat.le_of_ble_eq_true rfl) (Nat.le_of_ble_eq_true rfl) dX2_bring_61 (fun q hAq => ?_)
            refine j_world (Wd' := fun H => pgR D cD cC A σ n ad H ∧ va_at D vwCl (q, .inr (1, [.int 0, .int 0, .int 0, .int 0, .null, .int 0, .int 0, .int 0, .int 0, .int 0, .int 0])) H ∧ ∀ k, k < 13 + n → ad k ≠ q) (fun H h => pgFresh_R h) ?_
            refine j_fact (fun H h => h.2.2) (fun hne => ?_)
            refine j_dup B dX2_bring_64 rfl ?_
            refine j_iload_n B dX2_bring_65 1 rfl rfl ?_
            refine j_iload_n B dX2_bring_66 2 rfl rfl ?_
            refine j_cIv B (S := Unit) (b := q) 2 [.int kind, .int secr] (WdC' := fun _ H => va_at D vwCl (q, .inr (1, [.int kind, .int secr, .int 0, .int 0, .null, .int (-1), .int 0, .int (-1), .int 0, .int 0, .int (-1)])) H) (fun _ => fun H => pgR D cD cC A σ n ad H ∧ va_at D vwCl (q, .inr (1, [.int kind, .int secr, .int 0, .int 0, .null, .int (-1), .int 0, .int (-1), .int 0, .int 0, .int (-1)])) H ∧ ∀ k, k < 13 + n → ad k ≠ q) (c_X1_init l D cD cC cI cZ cL (fun z => A z ∧ ∀ k, k < 13 + n → z ≠ ad k) q ⟨hAq, fun k hk => (hne k hk).symm⟩ kind secr) q_190 q_191 q_9 q_192 rfl hdX1_init rfl ⟨Nat.le_of_ble_eq_true rfl, Nat.le_of_ble_eq_true rfl⟩ (Nat.le_of_ble_eq_true rfl) dX2_bring_67 rfl ⟨Nat.le_of_ble_eq_true rfl, Nat.le_of_ble_eq_true rfl⟩ (fun z h => h.1) (fun H h z hz hA => ⟨hA, fun k hk9 e => by have := pgR.lt h.1 hk9; omega⟩) (fun H h => h.2.1) (fun H H1 u h hc hz hk => ⟨pgR.kept h.1 (fun k hk9 => hk _ (pgR.lt h.1 hk9) (fun z => z.2 k hk9 rfl)), hc, h.2.2⟩) (fun _ _ => ?_)
            refine j_astore B (L' := [(4, .ref q), (0, .ref (ad 0)), (1, .int kind), (2, .int secr), (3, .int keeper)]) dX2_bring_70 (by decide) rfl ?_
            refine j_aload_n B dX2_bring_72 1 rfl rfl ?_
            refine j_get B (v := .int (σ 13 0)) pgX2 rfl (fun H h => pgR.x h.1) 2 (by decide) q_49 rfl rfl dX2_bring_73 ?_
            refine j_istore B (L' := [(5, .int (σ 13 0)), (4, .ref q), (0, .ref (ad 0)), (1, .int kind), (2, .int secr), (3, .int keeper)]) dX2_bring_76 (by decide) rfl ?_
            refine j_aload_n B dX2_bring_78 2 rfl rfl ?_
            refine j_get B (v := .ref (ad 1)) pgX2 rfl (fun H h => pgR.x h.1) 0 (by decide) q_47 rfl rfl dX2_bring_79 ?_
            refine j_iload B dX2_bring_82 0 rfl ?_
            refine j_aload B dX2_bring_84 1 rfl ?_
            refine j_aast B (Wd' := pgR D cD cC A (pgNewD σ n kind secr) (n + 1) (va_up ad (13 + n) q)) (fun H h => pgR.bd h.1) 0 rfl (fun H h => h.2.1) rfl (by rw [hI.2.1]; exact vp_in_nI hn60 (by omega)) dX2_bring_86 (hIn 1 (by omega)) (fun H H1 h hc hz ho => pgR.push h.1 hn60 hI.2.2.1 h.2.1 hne hAq (by rw [show (σ 13 0).toNatClampNeg = n from pgI_n hI] at hc; exact hc) ho) ?_
            obtain ⟨ad2, had2⟩ : ∃ z, z = va_up ad (13 + n) q := ⟨_, rfl⟩
            have e0 : ad 0 = ad2 0 := by rw [had2]; exact (va_up_ne _ _ (by omega)).symm
            have eq2 : q = ad2 (13 + n) := by rw [had2]; exact (va_up_self _ _ _).symm
            rw [← had2]
            refine j_re (L' := [(5, .int (σ 13 0)), (4, .ref (ad2 (13 + n))), (0, .ref (ad2 0)), (1, .int kind), (2, .int secr), (3, .int keeper)]) (by rw [e0, eq2]) ?_
            refine j_fact (fun H h => pgR.inA h) (fun hIn => ?_)
            refine j_aload_n B dX2_bring_87 2 rfl rfl ?_
            refine j_dup B dX2_bring_88 rfl ?_
            refine j_get B (v := .int ((pgNewD σ n kind secr) 13 0)) pgX2 rfl (fun H h => pgR.x h) 2 (by decide) q_49 rfl rfl dX2_bring_89 ?_
            refine j_iconst B (v := 1) dX2_bring_92 (by decide) ?_
            refine j_iadd B dX2_bring_93 ?_
            refine j_put B (Wd' := pgR D cD cC A (pgU (pgNewD σ n kind secr) 13 0 (((pgNewD σ n kind secr) 13 0) + 1)) (n + 1) ad2) pgX2 tyX2 tyX2_ok nmX2 rfl (fun H h => pgR.x h) 2 (by decide) q_49 rfl rfl rfl rfl rfl (Nat.le_of_ble_eq_true rfl) dX2_bring_94 (hIn 0 (by omega)) (fun H H1 h hc hz ho => pgR.putX h pgXs2 hc ho) ?_
            refine j_aload_n B dX2_bring_97 2 rfl rfl ?_
            refine j_aload B dX2_bring_98 1 rfl ?_
            refine j_iload_n B dX2_bring_100 5 rfl rfl ?_
            refine j_cVv B (S := Unit) 2 [.ref (ad2 (13 + n)), .int keeper] (WdC' := fun _ => pgR D cD cC A (pgHo (pgU (pgNewD σ n kind secr) 13 0 (((pgNewD σ n kind secr) 13 0) + 1)) n keeper) (n + 1) ad2) (fun _ => pgR D cD cC A (pgHo (pgU (pgNewD σ n kind secr) 13 0 (((pgNewD σ n kind secr) 13 0) + 1)) n keeper) (n + 1) ad2) (c_X2_handOver l D cD cC cI cZ cL A (pgU (pgNewD σ n kind secr) 13 0 (((pgNewD σ n kind secr) 13 0) + 1)) (n + 1) ad2 n (Nat.lt_succ_self n) keeper) rfl (fun H h => pgR.x h) q_237 q_239 q_p1 q_1 q_240 hdX2_handOver rfl ⟨Nat.le_of_ble_eq_true rfl, Nat.le_of_ble_eq_true rfl⟩ (Nat.le_of_ble_eq_true rfl) dX2_bring_101 rfl ⟨Nat.le_of_ble_eq_true rfl, Nat.le_of_ble_eq_true rfl⟩ (fun _ h => h) (fun _ _ _ _ h => h) (fun _ h => h) (fun _ _ _ _ h _ _ => h) (fun _ _ => ?_)
            refine j_iload B dX2_bring_104 0 rfl ?_
            have e9 := sp_bring_eq (kind := kind) (secr := secr) (keeper := keeper) hI (by assumption) (by grind) (by assumption)
            exact j_x (j_iret B hr rfl dX2_bring_106 (Nat.le_of_ble_eq_true rfl) (Nat.le_of_ble_eq_true rfl) ad2 ⟨by rw [e9], by rw [e9], e0.symm⟩ (fun H h => pgR.eq h (by rw [e9]; rfl)))
          · exact j_throw (k := 3) pgTS pgTS2 pgTS3 rfl q_173 q_8 rfl B hl ht (is := 40) (text := "no more disks can be brought") (by decide) dX2_bring_51 dX2_bring_54 dX2_bring_55 dX2_bring_57 dX2_bring_60 (Nat.le_of_ble_eq_true rfl) (Nat.le_of_ble_eq_true rfl) (Nat.le_of_ble_eq_true rfl) (Nat.le_of_ble_eq_true rfl) (Nat.le_of_ble_eq_true rfl) (Nat.le_of_ble_eq_true rfl) (by have q9 := hI; simp only [sp_bring]; grind) (fun H H1 h hq => pgR.more h hq)
        · exact j_throw (k := 2) pgTA pgTA2 pgTA3 rfl q_157 q_7 rfl B hl ht (is := 29) (text := "kind or secrecy is out of range") (by decide) dX2_bring_22 dX2_bring_25 dX2_bring_26 dX2_bring_28 dX2_bring_31 (Nat.le_of_ble_eq_true rfl) (Nat.le_of_ble_eq_true rfl) (Nat.le_of_ble_eq_true rfl) (Nat.le_of_ble_eq_true rfl) (Nat.le_of_ble_eq_true rfl) (Nat.le_of_ble_eq_true rfl) (by simp only [sp_bring]; grind) (fun H H1 h hq => pgR.more h hq)
theorem pgB.ao1 {p : Program} {m : MethodId} {c : Code} {s : State} {args : Array Value} {meth : Method} {own : String} {cc : ByteArray} {nL : Nat} {D : va_G} {tys : List (ClassId × FieldType)} {A : Nat → Prop} (B : pgB p m c s args meth own cc nL D tys A) : va_AO RX1 s := B.2.2.2.2.2.2.2.2.2.2.1.2.1
theorem pgB.ao0 {p : Program} {m : MethodId} {c : Code} {s : State} {args : Array Value} {meth : Method} {own : String} {cc : ByteArray} {nL : Nat} {D : va_G} {tys : List (ClassId × FieldType)} {A : Nat → Prop} (B : pgB p m c s args meth own cc nL D tys A) : va_AO RX0 s := B.2.2.2.2.2.2.2.2.2.2.1.2.2
def pgS0 : pgSt := fun t j => if t = 11 ∧ j < 10 then -1 else 0
/-- the object with its two arrays and i crates -/
def pgR0 (D : va_G) (cD cC : ClassId) (A : Nat → Prop) (ad : Nat → Nat) (i : Nat) (H : Heap) : Prop :=
  va_at D vwCl (ad 0, .inr (2, [.ref (ad 1), .ref (ad 2), .int 0, .int 0, .int 0, .int 0, .int 0])) H ∧ va_at D vwCl (ad 1, .inl (cD, 60, .inr (.inr (.inr (.inr (fun _ => none)))))) H ∧ va_at D vwCl (ad 2, .inl (cC, 10, .inr (.inr (.inr (.inr (fun j => if j < i then some (ad (3 + j)) else none)))))) H ∧ (∀ c, c < i → va_at D vwCl (ad (3 + c), .inr (0, [.int (nI c), .int 0, .int (-1), .int 0])) H) ∧ (∀ a b, a < 3 + i → b < 3 + i → ad a = ad b → a = b) ∧ (∀ k, k < 3 + i → A (ad k))
theorem pgR0.lt {D : va_G} {cD cC : ClassId} {A : Nat → Prop} {ad : Nat → Nat} {i : Nat} {H : Heap} (h : pgR0 D cD cC A ad i H) : ∀ k, k < 3 + i → ad k < H.size := by
  intro k hk
  by_cases h0 : k = 0
  · subst h0; exact h.1.lt
  · by_cases h1 : k = 1
    · subst h1; exact h.2.1.lt
    · by_cases h2 : k = 2
      · subst h2; exact h.2.2.1.lt
      · have := (h.2.2.2.1 (k - 3) (by omega)).lt
        rw [show 3 + (k - 3) = k by omega] at this
        exact this
theorem pgR0.kept {D : va_G} {cD cC : ClassId} {A : Nat → Prop} {ad : Nat → Nat} {i : Nat} {H H1 : Heap} (h : pgR0 D cD cC A ad i H) (hq : ∀ k, k < 3 + i → H1[ad k]? = H[ad k]?) : pgR0 D cD cC A ad i H1 :=
  ⟨h.1.kept (hq 0 (by omega)), h.2.1.kept (hq 1 (by omega)), h.2.2.1.kept (hq 2 (by omega)), fun c hc => (h.2.2.2.1 c hc).kept (hq (3 + c) (by omega)), h.2.2.2.2⟩
theorem pgR0.push {D : va_G} {cD cC : ClassId} {A : Nat → Prop} {ad : Nat → Nat} {i q : Nat} {H H1 : Heap} (h : pgR0 D cD cC A ad i H) (hq : va_at D vwCl (q, .inr (0, [.int (nI i), .int 0, .int (-1), .int 0])) H) (hne : ∀ k, k < 3 + i → ad k ≠ q) (hA : A q) (hb : va_at D vwCl (ad 2, .inl (cC, 10, .inr (.inr (.inr (.inr (va_up (fun j => if j < i then some (ad (3 + j)) else none) i (some q))))))) H1) (ho : ∀ z : Nat, z ≠ ad 2 → H1[z]? = H[z]?) : pgR0 D cD cC A (va_up ad (3 + i) q) (i + 1) H1 := by
  have old : ∀ k, k < 3 + i → va_up ad (3 + i) q k = ad k := fun k hk => va_up_ne _ _ (by omega)
  have new : va_up ad (3 + i) q (3 + i) = q := va_up_self _ _ _
  have k2 : ∀ k, k < 3 + i → k ≠ 2 → H1[ad k]? = H[ad k]? := fun k hk h2 => ho _ (fun z => h2 (h.2.2.2.2.1 k 2 hk (by omega) z))
  refine ⟨?_, ?_, ?_, fun c hc => ?_, fun a b ha hb2 hab => ?_, fun k hk => ?_⟩
  · rw [old 0 (by omega), old 1 (by omega), old 2 (by omega)]
    exact h.1.kept (k2 0 (by omega) (by omega))
  · rw [old 1 (by omega)]
    exact h.2.1.kept (k2 1 (by omega) (by omega))
  · rw [old 2 (by omega)]
    refine pg_refs hb (fun j hj => ?_)
    unfold va_up
    by_cases e : j = i
    · subst e; simp
    · have e4 : 3 + j ≠ 3 + i := by omega
      have e5 : (j < i + 1) = (j < i) := by apply propext; omega
      simp only [e, e4, e5, if_false]
  · by_cases e : c = i
    · subst e
      rw [new]
      exact hq.kept (ho q (fun z => hne 2 (by omega) z.symm))
    · rw [old (3 + c) (by omega)]
      exact (h.2.2.2.1 c (by omega)).kept (k2 (3 + c) (by omega) (by omega))
  · by_cases ea : a = 3 + i <;> by_cases eb : b = 3 + i
    · omega
    · rw [ea, new, old b (by omega)] at hab
      exact absurd hab.symm (hne b (by omega))
    · rw [eb, new, old a (by omega)] at hab
      exact absurd hab (hne a (by omega))
    · rw [old a (by omega), old b (by omega)] at hab
      exact h.2.2.2.2.1 a b (by omega) (by omega) hab
  · by_cases e : k = 3 + i
    · rw [e, new]; exact hA
    · rw [old k (by omega)]; exact h.2.2.2.2.2 k (by omega)
theorem pgR0.done {D : va_G} {cD cC : ClassId} {A : Nat → Prop} {ad : Nat → Nat} {H : Heap} (h : pgR0 D cD cC A ad 10 H) : pgR D cD cC A pgS0 0 ad H := by
  refine ⟨fun k hk => ?_, h.2.2.2.2.1, h.2.2.2.2.2⟩
  by_cases h0 : k = 0
  · subst h0; exact h.1
  · by_cases h1 : k = 1
    · subst h1
      exact pg_refs h.2.1 (fun j hj => by simp)
    · by_cases h2 : k = 2
      · subst h2
        exact pg_refs h.2.2.1 (fun j hj => by simp [hj])
      · have h3 := h.2.2.2.1 (k - 3) (by omega)
        rw [show 3 + (k - 3) = k by omega] at h3
        have e : pgO cD cC pgS0 0 ad k = .inr (0, [.int (nI (k - 3)), .int 0, .int (-1), .int 0]) := by
          unfold pgO
          rw [if_neg h0, if_neg h1, if_neg h2, if_pos (by omega)]
          simp [pgS0, show k - 3 < 10 by omega]
        rw [e]
        exact h3
theorem pgFresh_R0 {D : va_G} {cD cC : ClassId} {A : Nat → Prop} {ad : Nat → Nat} {i q : Nat} {x : va_E} {H : Heap} (h : pgFresh D (pgR0 D cD cC A ad i) q x H) : pgR0 D cD cC A ad i H ∧ va_at D vwCl (q, x) H ∧ ∀ k, k < 3 + i → ad k ≠ q := by
  obtain ⟨H0, h0, e0, -, ho, hx⟩ := h
  refine ⟨h0.kept (fun k hk => ho _ (by have := h0.lt k hk; omega)), hx, fun k hk => ?_⟩
  have := h0.lt k hk
  omega
theorem j_loopC {p : Program} {l : Launch} {e : Env} {R : Room} {s : State} {m : MethodId} {args : Array Value} {below : List Frame} {meth : Method} {c : Code} {nL : Nat} {A : Nat → Prop} {Q : State → Prop} {pc : Nat} {st : List Value} {X : Type} {N : Nat} (ce sl : Nat → Nat) (inv : Nat → X → Prop) (WdX : Nat → X → Heap → Prop) (LX : Nat → X → List (Nat × Value)) (step : ∀ (i : Nat) (x : X), i ≤ N → inv i x → (i < N → ∀ x2 : X, inv (i + 1) x2 → pgJ p l e R s m args below meth c nL A (WdX (i + 1) x2) (ce (i + 1)) (sl (i + 1)) Q pc (LX (i + 1) x2) st) → pgJ p l e R s m args below meth c nL A (WdX i x) (ce i) (sl i) Q pc (LX i x) st) : ∀ (i : Nat) (x : X), i ≤ N → inv i x → pgJ p l e R s m args below meth c nL A (WdX i x) (ce i) (sl i) Q pc (LX i x) st := by
  have key : ∀ (f i : Nat) (x : X), i ≤ N → N ≤ i + f → inv i x → pgJ p l e R s m args below meth c nL A (WdX i x) (ce i) (sl i) Q pc (LX i x) st := by
    intro f
    induction f with
    | zero =>
      intro i x h1 h2 h3
      exact step i x h1 h3 (fun h => by omega)
    | succ f ih =>
      intro i x h1 h2 h3
      exact step i x h1 h3 (fun h x2 hx2 => ih (i + 1) x2 (by omega) (by omega) hx2)
  exact fun i x h1 h3 => key N i x h1 (by omega) h3
set_option maxHeartbeats 4000000 in
set_option maxRecDepth 100000 in
/-- Shredroll() -/
theorem c_X2_init (l : Launch) (D : va_G) (cD cC cI cZ cL : ClassId) (A : Nat → Prop) (q : Nat) (hAq : A q) : Met l yX2_init (.code yX2_init cX2_init 2 none :: pgWd) ({ frames := 2, cells := 12, slots := 117, locals := 33 } : Room) (pgPc D (pgTys cD cC cI cZ cL) A (fun H => va_at D vwCl (q, .inr (2, [.null, .null, .int 0, .int 0, .int 0, .int 0, .int 0])) H) [.ref q]) (va_Qv (fun (u : Nat → Nat) => u 0 = q) (fun u t9 => pgR D cD cC A pgS0 0 u t9.heap) A) 12 117 A := by
  refine pg_enter (own := RX2) (by decide) rfl (Nat.le_of_ble_eq_true rfl) (fun p e s m below meth cc9 B hr hnm => ?_)
  refine j_aload_n B dX2_init_0 0 rfl rfl ?_
  refine j_objInit B q_19 q_20 q_21 dX2_init_1 (Nat.le_of_ble_eq_true rfl) (Nat.le_of_ble_eq_true rfl) ?_
  refine j_aload_n B dX2_init_4 0 rfl rfl ?_
  refine j_bipush B (v := 60) dX2_init_5 (by decide) ?_
  refine j_anew B (N := 60) q_22 B.ao1 0 rfl (by decide) (by decide) (Nat.le_of_ble_eq_true rfl) (Nat.le_of_ble_eq_true rfl) (Nat.le_of_ble_eq_true rfl) dX2_init_7 (fun q1 hA1 => ?_)
  refine j_world (Wd' := fun H => va_at D vwCl (q, .inr (2, [.null, .null, .int 0, .int 0, .int 0, .int 0, .int 0])) H ∧ va_at D vwCl (q1, .inl (cD, 60, .inr (.inr (.inr (.inr (fun _ => none)))))) H ∧ q ≠ q1) (fun H h => ?_) ?_
  · obtain ⟨H0, h0, e0, -, ho, hx⟩ := h
    have l0 := h0.lt
    exact ⟨h0.kept (ho q (by rw [← e0]; exact l0)), hx, by rw [← e0]; exact Nat.ne_of_lt l0⟩
  refine j_fact (fun H h => h.2.2) (fun hq1 => ?_)
  refine j_putF B (Wd' := fun H => va_at D vwCl (q, .inr (2, [.ref q1, .null, .int 0, .int 0, .int 0, .int 0, .int 0])) H ∧ va_at D vwCl (q1, .inl (cD, 60, .inr (.inr (.inr (.inr (fun _ => none)))))) H ∧ q ≠ q1) pgX2 tyX2 tyX2_ok nmX2 rfl (fun H h => h.1) 0 (by decide) q_47 rfl rfl hnm rfl rfl rfl rfl (Nat.le_of_ble_eq_true rfl) dX2_init_10 hAq (fun H H1 h hc hz ho => ⟨hc, h.2.1.kept (ho _ hq1.symm), hq1⟩) ?_
  refine j_aload_n B dX2_init_13 0 rfl rfl ?_
  refine j_bipush B (v := 10) dX2_init_14 (by decide) ?_
  refine j_anew B (N := 10) q_24 B.ao0 1 rfl (by decide) (by decide) (Nat.le_of_ble_eq_true rfl) (Nat.le_of_ble_eq_true rfl) (Nat.le_of_ble_eq_true rfl) dX2_init_16 (fun q2 hA2 => ?_)
  refine j_world (Wd' := fun H => (va_at D vwCl (q, .inr (2, [.ref q1, .null, .int 0, .int 0, .int 0, .int 0, .int 0])) H ∧ va_at D vwCl (q1, .inl (cD, 60, .inr (.inr (.inr (.inr (fun _ => none)))))) H) ∧ va_at D vwCl (q2, .inl (cC, 10, .inr (.inr (.inr (.inr (fun _ => none)))))) H ∧ q ≠ q1 ∧ q ≠ q2 ∧ q1 ≠ q2) (fun H h => ?_) ?_
  · obtain ⟨H0, h0, e0, -, ho, hx⟩ := h
    have l0 : q < q2 := by rw [← e0]; exact h0.1.lt
    have l1 : q1 < q2 := by rw [← e0]; exact h0.2.1.lt
    exact ⟨⟨h0.1.kept (ho q l0), h0.2.1.kept (ho q1 l1)⟩, hx, hq1, Nat.ne_of_lt l0, Nat.ne_of_lt l1⟩
  refine j_fact (fun H h => h.2.2) (fun hq2 => ?_)
  refine j_putF B (Wd' := fun H => (va_at D vwCl (q, .inr (2, [.ref q1, .ref q2, .int 0, .int 0, .int 0, .int 0, .int 0])) H ∧ va_at D vwCl (q1, .inl (cD, 60, .inr (.inr (.inr (.inr (fun _ => none)))))) H) ∧ va_at D vwCl (q2, .inl (cC, 10, .inr (.inr (.inr (.inr (fun _ => none)))))) H ∧ q ≠ q1 ∧ q ≠ q2 ∧ q1 ≠ q2) pgX2 tyX2 tyX2_ok nmX2 rfl (fun H h => h.1.1) 1 (by decide) q_48 rfl rfl hnm rfl rfl rfl rfl (Nat.le_of_ble_eq_true rfl) dX2_init_19 hAq (fun H H1 h hc hz ho => ⟨⟨hc, h.1.2.kept (ho _ hq1.symm)⟩, h.2.1.kept (ho _ hq2.2.1.symm), hq2⟩) ?_
  refine j_iconst B (v := 0) dX2_init_22 (by decide) ?_
  refine j_istore_n B (L' := [(1, .int 0), (0, .ref q)]) dX2_init_23 rfl (by decide) rfl ?_
  refine j_world (Wd' := pgR0 D cD cC A (fun k => if k = 0 then q else if k = 1 then q1 else q2) 0) (fun H h => ?_) ?_
  · refine ⟨h.1.1, h.1.2, pg_refs h.2.1 (fun j hj => by simp), fun c hc => by omega, fun a b ha hb hab => ?_, fun k hk => ?_⟩
    · have z1 : q ≠ q1 := hq2.1
      have z2 : q ≠ q2 := hq2.2.1
      have z3 : q1 ≠ q2 := hq2.2.2
      rcases (show a = 0 ∨ a = 1 ∨ a = 2 by omega) with rfl | rfl | rfl <;> rcases (show b = 0 ∨ b = 1 ∨ b = 2 by omega) with rfl | rfl | rfl <;> simp at hab ⊢ <;> omega
    · rcases (show k = 0 ∨ k = 1 ∨ k = 2 by omega) with rfl | rfl | rfl
      · exact hAq
      · exact hA1
      · exact hA2
  refine j_loopC (N := 10) (X := Nat → Nat) (fun i => 2 + i) (fun i => 70 + 4 * i) (fun i x => x 0 = q) (fun i x => pgR0 D cD cC A x i) (fun i x => [(1, .int (nI i)), (0, .ref q)]) (fun i x hi hv ih => ?_) 0 _ (by omega) rfl
  subst hv
  refine j_iload_n B dX2_init_24 0 rfl rfl ?_
  refine j_bipush B (v := 10) dX2_init_25 (by decide) ?_
  refine j_icmp_ge B 50 dX2_init_27 (by decide) (fun h1 => ?_) (fun h1 => ?_)
  · obtain rfl := pg_eqN hi (by omega) h1
    exact j_vret B hr dX2_init_50 (show 2 + 10 ≤ 12 by omega) (show 70 + 4 * 10 ≤ 117 by omega) x rfl (fun H h => pgR0.done h)
  · have hlt := pg_ltN (N := 10) (by omega) hi h1
    refine j_fact (fun H h => h.2.2.2.2.2 2 (by omega)) (fun hA2x => ?_)
    refine j_aload_n B dX2_init_30 1 rfl rfl ?_
    refine j_get B (v := .ref (x 2)) pgX2 rfl (fun H h => h.1) 1 (by decide) q_48 rfl rfl dX2_init_31 ?_
    refine j_iload_n B dX2_init_34 0 rfl rfl ?_
    refine j_new B (ci := 0) (fs := [.int 0, .int 0, .int 0, .int 0]) pgX0 tyX0 tyX0_ok q_24 q_26 q_2 rfl (fun j hj => by rcases (show j = 0 ∨ j = 1 ∨ j = 2 ∨ j = 3 by omega) with rfl | rfl | rfl | rfl <;> rfl) (show 2 + i + 1 ≤ 12 by omega) (show 70 + 4 * i + 4 ≤ 117 by omega) dX2_init_35 (fun q3 hA3 => ?_)
    refine j_world (Wd' := fun H => pgR0 D cD cC A x i H ∧ va_at D vwCl (q3, .inr (0, [.int 0, .int 0, .int 0, .int 0])) H ∧ ∀ k, k < 3 + i → x k ≠ q3) (fun H h => pgFresh_R0 h) ?_
    refine j_fact (fun H h => h.2.2) (fun hne => ?_)
    refine j_dup B dX2_init_38 rfl ?_
    refine j_iload_n B dX2_init_39 0 rfl rfl ?_
    refine j_cIv B (S := Unit) (b := q3) 1 [.int (nI i)] (WdC' := fun _ H => va_at D vwCl (q3, .inr (0, [.int (nI i), .int 0, .int (-1), .int 0])) H) (fun _ => fun H => pgR0 D cD cC A x i H ∧ va_at D vwCl (q3, .inr (0, [.int (nI i), .int 0, .int (-1), .int 0])) H ∧ ∀ k, k < 3 + i → x k ≠ q3) (c_X0_init l D cD cC cI cZ cL (fun z => A z ∧ ∀ k, k < 3 + i → z ≠ x k) q3 ⟨hA3, fun k hk => (hne k hk).symm⟩ (nI i)) q_27 q_28 q_2 q_29 rfl hdX0_init rfl ⟨Nat.le_of_ble_eq_true rfl, Nat.le_of_ble_eq_true rfl⟩ (Nat.le_of_ble_eq_true rfl) dX2_init_40 rfl ⟨(show 2 + i + 1 + 0 ≤ 12 by omega), (show 70 + 4 * i + 4 + 0 ≤ 117 by omega)⟩ (fun z h => h.1) (fun H h z hz hA => ⟨hA, fun k hk9 e => by have := pgR0.lt h.1 k hk9; omega⟩) (fun H h => h.2.1) (fun H H1 u h hc hz hk => ⟨pgR0.kept h.1 (fun k hk9 => hk _ (pgR0.lt h.1 k hk9) (fun z => z.2 k hk9 rfl)), hc, h.2.2⟩) (fun _ _ => ?_)
    refine j_aast B (Wd' := pgR0 D cD cC A (va_up x (3 + i) q3) (i + 1)) (fun H h => h.1.2.2.1) 1 rfl (fun H h => h.2.1) rfl (vp_in_nI hlt (by omega)) dX2_init_43 (hA2x) (fun H H1 h hc hz ho => pgR0.push h.1 h.2.1 hne hA3 (by rw [show (nI i).toNatClampNeg = i from nI_clamp (by omega)] at hc; exact hc) ho) ?_
    refine j_iinc B (v := nI (i + 1)) (L' := [(1, .int (nI (i + 1))), (0, .ref (x 0))]) dX2_init_44 0 rfl (nI_1 i) (by decide) rfl ?_
    refine j_goto B 24 dX2_init_47 (by decide) ?_
    refine j_widen (k := 2 + (i + 1)) (n := 70 + 4 * (i + 1)) (show 2 + i + 1 + 0 ≤ 2 + (i + 1) by omega) (show 70 + 4 * i + 4 + 0 ≤ 70 + 4 * (i + 1) by omega) ?_
    exact ih hlt (va_up x (3 + i) q3) (va_up_ne _ _ (by omega))
