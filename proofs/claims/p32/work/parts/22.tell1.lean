/-! what every call keeps of the state -/
theorem pg_nm2 {k : Nat} (h : k < 2 ^ 31) : nI k ≠ -1 := fun z => nI_pos h (by rw [z]; decide)
section PGP
variable {n : Nat} {σ : pgSt} {d c k to t w g way secr kind keeper : Int32}
theorem pgI_u (h : pgI n σ) {t i : Nat} {v : Int32} (ht : t = 6 ∨ t = 7 ∨ t = 9 ∨ t = 10 ∨ t = 12 ∨ t = 0 ∨ t = 1 ∨ (t = 13 ∧ (i = 2 ∨ i = 3 ∨ i = 4)) ∨ ((t = 4 ∨ t = 5 ∨ t = 8) ∧ i < n) ∨ (t = 3 ∧ (v = -1 ∨ ∃ c, c < 10 ∧ v = nI c)) ∨ (t = 11 ∧ v = -1)) : pgI n (pgU σ t i v) := by
  obtain ⟨h1, h2, h3, ⟨K, k1, k2, k3⟩, h5, h6⟩ := h
  refine ⟨h1, ?_, fun j hj => ?_, ⟨K, k1, ?_, fun c hc => ?_⟩, fun j hj => ?_, fun j hj => ?_⟩
  · simp only [pgU]; grind (splits := 40)
  · have := h3 j hj
    simp only [pgU]; grind (splits := 40)
  · simp only [pgU]; grind (splits := 40)
  · have := k3 c hc
    simp only [pgU]; grind (splits := 40)
  · have := h5 j hj
    simp only [pgU]; grind (splits := 40)
  · have := h6 j hj
    simp only [pgU]; grind (splits := 40)
theorem pgI_ho (h : pgI n σ) {j : Nat} : pgI n (pgHo σ j to) := by
  obtain ⟨h1, h2, h3, ⟨K, k1, k2, k3⟩, h5, h6⟩ := h
  refine ⟨h1, ?_, fun j hj => ?_, ⟨K, k1, ?_, fun c hc => ?_⟩, fun j hj => ?_, fun j hj => ?_⟩
  · simp only [pgHo, pgU]; grind (splits := 40)
  · have := h3 j hj
    simp only [pgHo, pgU]; grind (splits := 40)
  · simp only [pgHo, pgU]; grind (splits := 40)
  · have := k3 c hc
    simp only [pgHo, pgU]; grind (splits := 40)
  · have := h5 j hj
    simp only [pgHo, pgU]; grind (splits := 40)
  · have := h6 j hj
    simp only [pgHo, pgU]; grind (splits := 40)
theorem pgI_hoN (h : pgI n σ) {k : Nat} : pgI n (pgHoN σ c to k) := by
  obtain ⟨h1, h2, h3, ⟨K, k1, k2, k3⟩, h5, h6⟩ := h
  refine ⟨h1, ?_, fun j hj => ?_, ⟨K, k1, ?_, fun c hc => ?_⟩, fun j hj => ?_, fun j hj => ?_⟩
  · simp only [pgHoN]; grind (splits := 40)
  · have := h3 j hj
    simp only [pgHoN]; grind (splits := 40)
  · simp only [pgHoN]; grind (splits := 40)
  · have := k3 c hc
    simp only [pgHoN]; grind (splits := 40)
  · have := h5 j hj
    simp only [pgHoN]; grind (splits := 40)
  · have := h6 j hj
    simp only [pgHoN]; grind (splits := 40)
theorem pgI_ce (h : pgI n σ) {v : Int32} {i : Nat} : pgI n (pgCe σ k v i) := by
  obtain ⟨h1, h2, h3, ⟨K, k1, k2, k3⟩, h5, h6⟩ := h
  refine ⟨h1, ?_, fun j hj => ?_, ⟨K, k1, ?_, fun c hc => ?_⟩, fun j hj => ?_, fun j hj => ?_⟩
  · simp only [pgCe]; grind (splits := 40)
  · have := h3 j hj
    simp only [pgCe]; grind (splits := 40)
  · simp only [pgCe]; grind (splits := 40)
  · have := k3 c hc
    simp only [pgCe]; grind (splits := 40)
  · have := h5 j hj
    simp only [pgCe]; grind (splits := 40)
  · have := h6 j hj
    simp only [pgCe]; grind (splits := 40)
end PGP
section PV22
variable {n j k c w q : Nat} {σ τ φ ψ : pgSt} {m m2 : Int64} {Bd : Nat}
theorem pvE_u {t i : Nat} {v : Int32} (hi : i ≠ j) : pvE (pgU σ t j v) i = pvE σ i := pvE_congr (pgU_nj hi) (pgU_nj hi) (pgU_nj hi) (pgU_nj hi) (pgU_nj hi) (pgU_nj hi)
theorem pvE_t {t i a : Nat} {v : Int32} (h : t ≠ 2 ∧ t ≠ 3 ∧ t ≠ 4 ∧ t ≠ 6 ∧ t ≠ 8 ∧ t ≠ 9) : pvE (pgU σ t a v) i = pvE σ i := pvE_congr (pgU_ne h.1.symm) (pgU_ne h.2.1.symm) (pgU_ne h.2.2.1.symm) (pgU_ne h.2.2.2.1.symm) (pgU_ne h.2.2.2.2.1.symm) (pgU_ne h.2.2.2.2.2.symm)
theorem pvD_congr {i : Nat} (h : pvD σ φ i) (ht : ∀ t, t < 8 → τ t i = σ t i) (h10 : ∀ a, τ 10 a = σ 10 a) (h2 : ψ 2 i = φ 2 i) (h4 : ψ 4 i = φ 4 i) : pvD τ ψ i := by
  unfold pvD at *
  rw [ht 0 (by omega), ht 1 (by omega), ht 2 (by omega), ht 3 (by omega), ht 4 (by omega), ht 5 (by omega), ht 6 (by omega), ht 7 (by omega), h10, h2, h4]
  exact h
/-- one disk changes -/
theorem pvI_one (h : pvI n σ φ m Bd) (hj : j < n) (g : pgI n τ) (hN : pvN n τ ψ) (ho : ∀ i, i ≠ j → ∀ t, t < 8 → τ t i = σ t i) (h9 : ∀ a, τ 9 a = σ 9 a) (h10 : ∀ a, τ 10 a = σ 10 a) (h12 : ∀ a, τ 12 a = σ 12 a) (h134 : τ 13 4 = σ 13 4) (p2 : ∀ a, ψ 2 a = φ 2 a) (p3 : ∀ a, ψ 3 a = φ 3 a) (p4 : ∀ i, i ≠ j → ψ 4 i = φ 4 i) (hd : pvD τ ψ j) (hm : ∀ i, i < 64 → (pvB m2 i ↔ τ 5 i ≠ 0)) : pvI n τ ψ m2 Bd := by
  obtain ⟨i1, i2, i3, i4, i5, ⟨C, c1, c2, c3⟩, i7⟩ := h
  refine ⟨g, hN, fun i hi => ?_, fun i hi hi2 => ?_, fun a ha => ?_, ⟨C, c1, h134.trans c2, fun i hi => by rw [h9]; exact c3 i hi⟩, hm⟩
  · by_cases e : i = j
    · rw [e]; exact hd
    · exact pvD_congr (i3 i hi) (ho i e) h10 (p2 i) (p4 i e)
  · rw [p4 i (by omega)]; exact i4 i hi hi2
  · have := i5 a ha
    unfold pvK at *
    rw [h10, p3, h12]
    exact this
/-- crates and counts change, no disk does -/
theorem pvI_cr (h : pvI n σ φ m Bd) (g : pgI n τ) (hN : pvN n τ ψ) (ho : ∀ t, t < 8 → ∀ i, τ t i = σ t i) (h9 : ∀ a, τ 9 a = σ 9 a) (h10 : ∀ a, τ 10 a = σ 10 a) (hk : ∀ a, a < 10 → pvK τ ψ a) (h134 : τ 13 4 = σ 13 4) (p2 : ∀ a, ψ 2 a = φ 2 a) (p4 : ∀ i, ψ 4 i = φ 4 i) : pvI n τ ψ m Bd := by
  obtain ⟨i1, i2, i3, i4, i5, ⟨C, c1, c2, c3⟩, i7⟩ := h
  refine ⟨g, hN, fun i hi => pvD_congr (i3 i hi) (fun t ht => ho t ht i) h10 (p2 i) (p4 i), fun i hi hi2 => ?_, hk, ⟨C, c1, h134.trans c2, fun i hi => by rw [h9]; exact c3 i hi⟩, fun i hi => ?_⟩
  · rw [p4]; exact i4 i hi hi2
  · rw [ho 5 (by omega)]; exact i7 i hi
theorem pvI_le {Bd2 : Nat} (h : pvI n σ φ m Bd) (hb : Bd ≤ Bd2) : pvI n σ φ m Bd2 := by
  obtain ⟨i1, i2, i3, i4, i5, ⟨C, c1, c2⟩, i7⟩ := h
  exact ⟨i1, i2, i3, i4, i5, ⟨C, by omega, c2⟩, i7⟩
theorem pvI_add0 {i : Nat} (h : pvI n σ φ m Bd) : pvI n σ (pgU φ 0 i (φ 0 i + 0)) m Bd := by
  rw [pgU_same (Int32.add_zero _).symm]
  exact h
theorem pvI_same {t i : Nat} (h : pvI n σ φ m Bd) : pvI n σ (pgU φ t i (φ t i)) m Bd := by
  rw [pgU_same rfl]
  exact h
theorem pv_j64 (h : pvI n σ φ m Bd) (hj : j < n) : j < 64 := by have := h.1.1; omega
theorem pv_shut {v : Int32} (h : σ 3 j = -1) : ¬ pgShut σ j := fun z => z.1 h
theorem pv_loose : (pgReach σ j ∧ σ 3 j = -1) ↔ pgLoose σ j := ⟨fun h => ⟨h.1.1, h.1.2.1, h.2⟩, fun h => ⟨⟨h.1, h.2.1, fun z => z.1 h.2.2⟩, h.2.2⟩⟩
theorem pv_offer (h : pvI n σ φ m Bd) (hj : j < n) (hk : k < 8) : ∃ t τ, pvT (sp_offer σ (nI j) (nI k)) = t ∧ (sp_offer σ (nI j) (nI k)).2.2 = τ ∧ (sp_offer σ (nI j) (nI k)).1 ≠ 1 ∧ pvI n τ φ m Bd ∧ (∀ i, i ≠ j → pvE τ i = pvE σ i) ∧ τ 2 j = σ 2 j ∧ (nI k = σ 2 j → t = -9 ∧ ∀ i, pvE τ i = pvE σ i) ∧ (nI k ≠ σ 2 j → (pgReach σ j ∧ σ 3 j = -1) → t = σ 2 j ∧ τ 6 j = nI k) ∧ (nI k ≠ σ 2 j → ¬ (pgReach σ j ∧ σ 3 j = -1) → t = -8 ∧ τ 6 j = σ 6 j) := by
  obtain ⟨hd, hx⟩ := pv_isD h.1 hj
  have hK := pv_isK hk
  have hD := h.2.2.1 j hj
  rw [pv_loose]
  unfold sp_offer
  rw [if_neg (fun z => z ⟨hd, hK⟩), hx]
  by_cases c1 : nI k = σ 2 j
  · rw [if_pos c1]
    exact ⟨-9, σ, rfl, rfl, by simp, h, fun _ _ => rfl, rfl, fun _ => ⟨rfl, fun _ => rfl⟩, fun z => absurd c1 z, fun z => absurd c1 z⟩
  rw [if_neg c1]
  by_cases c2 : pgLoose σ j
  · rw [if_neg (fun z => z c2)]
    refine ⟨σ 2 j, pgU σ 6 j (nI k), rfl, rfl, by simp, ?_, fun i hi => pvE_u hi, by simp [pgU], fun z => absurd z c1, fun _ _ => ⟨rfl, pgU_self⟩, fun _ z => absurd c2 z⟩
    refine pvI_one h hj (pgI_u h.1 (by omega)) ?_ (fun i hi t _ => pgU_nj hi) (fun a => by simp [pgU]) (fun a => by simp [pgU]) (fun a => by simp [pgU]) (by simp [pgU]) (fun a => rfl) (fun a => rfl) (fun i _ => rfl) ?_ (fun i hi => by simpa [pgU] using h.2.2.2.2.2.2 i hi)
    · simpa [pvN, pgU] using h.2.1
    · obtain ⟨d1, d2, d3, d4, d5, d6⟩ := hD
      refine ⟨?_, ?_, ?_, ?_, ?_, ?_⟩
      · simpa [pgU] using d1
      · left; simpa [pgU] using c2.2.2
      · right
        rw [pgU_self]
        exact ⟨⟨k, hk, rfl⟩, by simpa [pgU] using c1, by simpa [pgU] using c2.1⟩
      · simpa [pgU] using d4
      · simpa [pgU] using d5
      · simpa [pgU] using d6
  · rw [if_pos c2]
    exact ⟨-8, σ, rfl, rfl, by simp, h, fun _ _ => rfl, rfl, fun z => absurd z c1, fun _ z => absurd z c2, fun _ _ => ⟨rfl, rfl⟩⟩
theorem pv_answer1 (h : pvI n σ φ m Bd) (hj : j < n) (hf : σ 6 j ≠ -1) : ∃ t τ, pvT (sp_answer σ (nI j) 1) = t ∧ (sp_answer σ (nI j) 1).2.2 = τ ∧ (sp_answer σ (nI j) 1).1 ≠ 1 ∧ pgI n τ ∧ pvI n τ (pgU φ 0 1 (φ 0 1 + 1)) m Bd ∧ (∀ i, i ≠ j → pvE τ i = pvE σ i) ∧ t = σ 6 j ∧ τ 2 j = σ 6 j ∧ τ 6 j = -1 := by
  obtain ⟨hd, hx⟩ := pv_isD h.1 hj
  have hD := h.2.2.1 j hj
  obtain ⟨d1, d2, d3, d4, d5, d6⟩ := hD
  have d3 := d3.resolve_left hf
  have hc : σ 3 j = -1 := by
    rcases d2 with z | z
    · exact z
    · exact absurd z.2 hf
  unfold sp_answer
  rw [if_neg (fun z => z hd), hx, if_neg (fun z => z.elim (fun z => z d3.2.2) (fun z => hf z)), if_neg (by decide)]
  have g : pgI n (pgHo (pgU σ 6 j (-1)) j (σ 6 j)) := pgI_ho (pgI_u h.1 (by omega))
  refine ⟨σ 6 j, pgHo (pgU σ 6 j (-1)) j (σ 6 j), rfl, rfl, by simp, g, ?_, fun i hi => ?_, rfl, by simp [pgU], by simp [pgU]⟩
  · refine pvI_one h hj g ?_ (fun i hi t ht => by simp [pgU, hi]; omega) (fun a => by simp [pgU]) (fun a => by simp [pgU]) (fun a => by simp [pgU]) (by simp [pgU]) (fun a => by simp [pgU]) (fun a => by simp [pgU]) (fun i _ => by simp [pgU]) ?_ (fun i hi => by simpa [pgU] using h.2.2.2.2.2.2 i hi)
    · obtain ⟨n1, n2, n3, n4, n5⟩ := h.2.1
      refine ⟨by simp [pgU, n1], by simp [pgU, n2], by simp [pgU, n3], by simp [pgU, n4], by simp [pgU, n5]⟩
    · refine ⟨?_, ?_, ?_, ?_, ?_, ?_⟩
      · simpa [pgU] using d3.1
      · left; simpa [pgU] using hc
      · left; simp [pgU]
      · simpa [pgU] using d4
      · simpa [pgU] using d5
      · simpa [pgU] using d6
  · exact pvE_congr (by simp [pgU, hi]) (by simp [pgU]) (by simp [pgU]) (by simp [pgU, hi]) (by simp [pgU]) (by simp [pgU])
theorem pv_answer0 (h : pvI n σ φ m Bd) (hj : j < n) (hf : σ 6 j ≠ -1) : ∃ t τ, pvT (sp_answer σ (nI j) 0) = t ∧ (sp_answer σ (nI j) 0).2.2 = τ ∧ (sp_answer σ (nI j) 0).1 ≠ 1 ∧ pgI n τ ∧ pvI n τ (pgU φ 0 1 (φ 0 1 + 0)) m Bd ∧ (∀ i, i ≠ j → pvE τ i = pvE σ i) ∧ t = σ 2 j ∧ τ 2 j = σ 2 j ∧ τ 6 j = -1 := by
  obtain ⟨hd, hx⟩ := pv_isD h.1 hj
  obtain ⟨d1, d2, d3, d4, d5, d6⟩ := h.2.2.1 j hj
  have d3 := d3.resolve_left hf
  have hc : σ 3 j = -1 := by
    rcases d2 with z | z
    · exact z
    · exact absurd z.2 hf
  unfold sp_answer
  rw [if_neg (fun z => z hd), hx, if_neg (fun z => z.elim (fun z => z d3.2.2) (fun z => hf z)), if_pos rfl]
  have g : pgI n (pgU σ 6 j (-1)) := pgI_u h.1 (by omega)
  refine ⟨σ 2 j, pgU σ 6 j (-1), rfl, rfl, by simp, g, pvI_add0 ?_, fun i hi => pvE_u hi, rfl, by simp [pgU], by simp [pgU]⟩
  refine pvI_one h hj g ?_ (fun i hi t ht => by simp [pgU, hi]) (fun a => by simp [pgU]) (fun a => by simp [pgU]) (fun a => by simp [pgU]) (by simp [pgU]) (fun a => rfl) (fun a => rfl) (fun i _ => rfl) ?_ (fun i hi => by simpa [pgU] using h.2.2.2.2.2.2 i hi)
  · simpa [pvN, pgU] using h.2.1
  · refine ⟨?_, ?_, ?_, ?_, ?_, ?_⟩
    · simpa [pgU] using d1
    · left; simpa [pgU] using hc
    · left; simp [pgU]
    · simpa [pgU] using d4
    · simpa [pgU] using d5
    · simpa [pgU] using d6
theorem pvN_one {P P2 : Nat → Bool} {k : Nat} (hj : j < k) (ho : ∀ i, i ≠ j → P2 i = P i) (h1 : P j = false) (h2 : P2 j = true) : pgN P2 k = pgN P k + 1 := by
  induction k with
  | zero => omega
  | succ k ih =>
    unfold pgN
    by_cases e : j = k
    · subst e
      rw [h1, h2, pgN_congr (P := P2) (P2 := P) (fun i hi => ho i (by omega))]
      simp
    · rw [ih (by omega), ho k (fun z => e z.symm)]
      omega
theorem pv_pack (h : pvI n σ φ m Bd) (hj : j < n) (hc : c < 10) : ∃ t τ, pvT (sp_pack σ (nI j) (nI c)) = t ∧ (sp_pack σ (nI j) (nI c)).2.2 = τ ∧ (sp_pack σ (nI j) (nI c)).1 ≠ 1 ∧ pvI n τ φ m Bd ∧ (∀ i, i ≠ j → pvE τ i = pvE σ i) ∧ ((pgReach σ j ∧ σ 3 j = -1 ∧ σ 11 c = -1 ∧ σ 10 c = σ 2 j) → t = pgCnt σ n (nI c) + 1 ∧ τ 3 j = nI c) ∧ (¬ (pgReach σ j ∧ σ 3 j = -1 ∧ σ 11 c = -1 ∧ σ 10 c = σ 2 j) → t = -8 ∧ τ 3 j = σ 3 j) := by
  obtain ⟨hd, hx⟩ := pv_isD h.1 hj
  obtain ⟨hC, hy⟩ := pv_isC hc
  obtain ⟨d1, d2, d3, d4, d5, d6⟩ := h.2.2.1 j hj
  have hl : (pgReach σ j ∧ σ 3 j = -1 ∧ σ 11 c = -1 ∧ σ 10 c = σ 2 j) ↔ (pgLoose σ j ∧ σ 11 c = -1 ∧ σ 10 c = σ 2 j) := by
    rw [← and_assoc, pv_loose]
  rw [hl]
  unfold sp_pack
  rw [if_neg (fun z => z ⟨hd, hC⟩), hx, hy]
  by_cases c2 : pgLoose σ j ∧ σ 11 c = -1 ∧ σ 10 c = σ 2 j
  · rw [if_neg (fun z => z c2)]
    have g : pgI n (pgU σ 3 j (nI c)) := pgI_u h.1 (Or.inr (Or.inr (Or.inr (Or.inr (Or.inr (Or.inr (Or.inr (Or.inr (Or.inr (Or.inl ⟨rfl, Or.inr ⟨c, hc, rfl⟩⟩))))))))))
    refine ⟨pgCnt (pgU σ 3 j (nI c)) (ix (σ 13 0)) (nI c), pgU σ 3 j (nI c), rfl, rfl, by simp, ?_, fun i hi => pvE_u hi, fun _ => ⟨?_, pgU_self⟩, fun z => absurd c2 z⟩
    · refine pvI_one h hj g ?_ (fun i hi t ht => by simp [pgU, hi]) (fun a => by simp [pgU]) (fun a => by simp [pgU]) (fun a => by simp [pgU]) (by simp [pgU]) (fun a => rfl) (fun a => rfl) (fun i _ => rfl) ?_ (fun i hi => by simpa [pgU] using h.2.2.2.2.2.2 i hi)
      · simpa [pvN, pgU] using h.2.1
      · refine ⟨?_, ?_, ?_, ?_, ?_, ?_⟩
        · simpa [pgU] using d1
        · right
          rw [pgU_self, hy]
          simpa [pgU] using ⟨c2.2.2, c2.1.2.1⟩
        · left; simpa [pgU] using c2.1.2.1
        · simpa [pgU] using d4
        · simpa [pgU] using d5
        · simpa [pgU] using d6
    · show pgCnt _ _ _ = _
      unfold pgCnt
      rw [pgI_n h.1, nI_1]
      refine congrArg nI (pvN_one (j := j) hj (fun i hi => ?_) ?_ ?_)
      · simp [pgU, hi]
      · have : σ 3 j ≠ nI c := by rw [c2.1.2.2]; exact fun z => pv_nm1 (by omega) z.symm
        simpa using this
      · simp [pgU]
  · rw [if_pos c2]
    exact ⟨-8, σ, rfl, rfl, by simp, h, fun _ _ => rfl, fun z => absurd z c2, fun _ => ⟨rfl, rfl⟩⟩
theorem pv_unpack (h : pvI n σ φ m Bd) (hj : j < n) : ∃ t τ, pvT (sp_unpack σ (nI j)) = t ∧ (sp_unpack σ (nI j)).2.2 = τ ∧ (sp_unpack σ (nI j)).1 ≠ 1 ∧ pvI n τ φ m Bd ∧ (∀ i, i ≠ j → pvE τ i = pvE σ i) ∧ ((σ 3 j ≠ -1 ∧ σ 5 j = 0 ∧ ¬ pgShut σ j) → t = σ 3 j ∧ τ 3 j = -1) ∧ (¬ (σ 3 j ≠ -1 ∧ σ 5 j = 0 ∧ ¬ pgShut σ j) → t = -8 ∧ τ 3 j = σ 3 j) := by
  obtain ⟨hd, hx⟩ := pv_isD h.1 hj
  obtain ⟨d1, d2, d3, d4, d5, d6⟩ := h.2.2.1 j hj
  unfold sp_unpack
  rw [if_neg (fun z => z hd), hx]
  by_cases c2 : σ 5 j ≠ 0 ∨ σ 3 j = -1 ∨ σ 11 (ix (σ 3 j)) ≠ -1
  · rw [if_pos c2]
    refine ⟨-8, σ, rfl, rfl, by simp, h, fun _ _ => rfl, fun z => absurd c2 ?_, fun _ => ⟨rfl, rfl⟩⟩
    simp only [pgShut] at z
    grind
  · rw [if_neg c2]
    have g : pgI n (pgU σ 3 j (-1)) := pgI_u h.1 (Or.inr (Or.inr (Or.inr (Or.inr (Or.inr (Or.inr (Or.inr (Or.inr (Or.inr (Or.inl ⟨rfl, Or.inl rfl⟩))))))))))
    refine ⟨σ 3 j, pgU σ 3 j (-1), rfl, rfl, by simp, ?_, fun i hi => pvE_u hi, fun _ => ⟨rfl, pgU_self⟩, fun z => absurd ?_ z⟩
    · refine pvI_one h hj g ?_ (fun i hi t ht => by simp [pgU, hi]) (fun a => by simp [pgU]) (fun a => by simp [pgU]) (fun a => by simp [pgU]) (by simp [pgU]) (fun a => rfl) (fun a => rfl) (fun i _ => rfl) ?_ (fun i hi => by simpa [pgU] using h.2.2.2.2.2.2 i hi)
      · simpa [pvN, pgU] using h.2.1
      · refine ⟨?_, ?_, ?_, ?_, ?_, ?_⟩
        · simpa [pgU] using d1
        · left; simp [pgU]
        · simpa [pgU] using d3
        · simpa [pgU] using d4
        · simpa [pgU] using d5
        · simpa [pgU] using d6
    · simp only [pgShut]
      grind
end PV22
