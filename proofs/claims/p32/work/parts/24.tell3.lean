section PV24
variable {n j k c w q a b : Nat} {σ τ φ ψ : pgSt} {m m2 : Int64} {Bd : Nat}
theorem pv_sealI (h : pgI n σ) (hc : c < 10) (hs : ¬ (σ 11 c ≠ -1 ∨ ¬ σ 13 1 < 100)) {v : Int32} : pgI n (pgU (pgU (pgU σ 11 c (σ 13 1)) 12 c v) 13 1 (σ 13 1 + 1)) := by
  obtain ⟨h1, h2, h3, ⟨K, k1, k2, k3⟩, h5, h6⟩ := h
  have hK : K < 100 := by
    by_cases z : K < 100
    · exact z
    · refine absurd ?_ (fun z2 => hs (Or.inr z2))
      have : K = 100 := by omega
      rw [k2, this]
      decide
  refine ⟨h1, ?_, fun i hi => ?_, ⟨K + 1, by omega, ?_, fun c2 hc2 => ?_⟩, fun i hi => ?_, fun i hi => ?_⟩
  · rw [← h2]
    simp [pgU]
  · have := h3 i hi
    simpa [pgU] using this
  · simp only [pgU]
    rw [k2]
    simp [nI_1]
  · have := k3 c2 hc2
    simp only [pgU]
    by_cases z : c2 = c
    · refine Or.inr ⟨K, by omega, ?_⟩
      simp [z, k2]
    · rcases this with h9 | ⟨k9, h9, h10⟩
      · exact Or.inl (by simp [z, h9])
      · exact Or.inr ⟨k9, by omega, by simp [z, h10]⟩
  · have := h5 i hi
    simpa [pgU] using this
  · have := h6 i hi
    simpa [pgU] using this
theorem pv_seal (h : pvI n σ φ m Bd) (hc : c < 10) : ∃ t τ, pvT (sp_seal σ (nI c)) = t ∧ (sp_seal σ (nI c)).2.2 = τ ∧ (sp_seal σ (nI c)).1 ≠ 1 ∧ pgI n τ ∧ (∀ i, pvE τ i = pvE σ i) ∧
    ((σ 11 c = -1 ∧ σ 13 1 < 100) → t = σ 13 1 ∧ τ 11 c = t ∧ pvI n τ (pgU (pgU φ 3 c (pgCnt σ n (nI c))) 0 3 (φ 0 3 + 1)) m Bd) ∧
    (¬ (σ 11 c = -1 ∧ σ 13 1 < 100) → t = -8 ∧ τ 11 c = σ 11 c ∧ pvI n τ (pgU (pgU φ 3 c (φ 3 c)) 0 3 (φ 0 3 + 0)) m Bd) := by
  obtain ⟨hC, hy⟩ := pv_isC hc
  have h1 := h.1
  unfold sp_seal
  rw [if_neg (fun z => z hC), hy]
  by_cases c1 : σ 11 c ≠ -1 ∨ ¬ σ 13 1 < 100
  · rw [if_pos c1]
    refine ⟨-8, σ, rfl, rfl, by simp, h.1, fun _ => rfl, fun z => absurd c1 (by grind), fun _ => ⟨rfl, rfl, ?_⟩⟩
    rw [pgU_same (t := 3) (i := c) rfl]
    exact pvI_add0 h
  · rw [if_neg c1, pgI_n h.1]
    refine ⟨σ 13 1, pgU (pgU (pgU σ 11 c (σ 13 1)) 12 c (pgCnt σ n (nI c))) 13 1 (σ 13 1 + 1), rfl, rfl, by simp, pv_sealI h.1 hc c1, fun i => pvE_congr (by simp [pgU]) (by simp [pgU]) (by simp [pgU]) (by simp [pgU]) (by simp [pgU]) (by simp [pgU]), fun _ => ⟨rfl, by simp [pgU], ?_⟩, fun z => absurd c1 (by grind)⟩
    refine pvI_cr h (pv_sealI h.1 hc c1) ?_ (fun t ht i => by
      have q1 : t ≠ 11 := by omega
      have q2 : t ≠ 12 := by omega
      have q3 : t ≠ 13 := by omega
      simp [pgU, q1, q2, q3]) (fun a => by simp [pgU]) (fun a => by simp [pgU]) (fun a ha => ?_) (by simp [pgU]) (fun a => by simp [pgU]) (fun i => by simp [pgU])
    · obtain ⟨n1, n2, n3, n4, n5⟩ := h.2.1
      exact ⟨by simp [pgU, n1], by simp [pgU, n2], by simp [pgU, n3], by simp [pgU, n4], by simp [pgU, n5]⟩
    · obtain ⟨z1, z2, z3⟩ := h.2.2.2.2.1 a ha
      refine ⟨by simpa [pgU] using z1, ?_, ?_⟩
      · by_cases e : a = c
        · simp [pgU, e]
        · simpa [pgU, e] using z2
      · by_cases e : a = c
        · exact ⟨pgN (fun j => decide (σ 3 j = nI c)) n, Nat.le_trans (pgN_le _ n) h1.1, by simp [pgU, e]⟩
        · simpa [pgU, e] using z3
theorem pv_open (h : pvI n σ φ m Bd) (hc : c < 10) {v : Int32} (hv : 0 ≤ v ∧ v ≤ 99) : ∃ t τ, pvT (sp_open σ (nI c) v) = t ∧ (sp_open σ (nI c) v).2.2 = τ ∧ (sp_open σ (nI c) v).1 ≠ 1 ∧ pgI n τ ∧ (∀ i, pvE τ i = pvE σ i) ∧ τ 11 c = -1 ∧
    (σ 11 c = -1 → t = -8 ∧ pvI n τ (pgU φ 0 4 (φ 0 4 + 0)) m Bd) ∧
    (σ 11 c ≠ -1 → t = v - φ 3 c ∧ (v = φ 3 c → pvI n τ (pgU φ 0 4 (φ 0 4 + 0)) m Bd) ∧ (v ≠ φ 3 c → pvI n τ (pgU φ 0 4 (φ 0 4 + 1)) m Bd)) := by
  obtain ⟨hC, hy⟩ := pv_isC hc
  obtain ⟨z1, z2, z3⟩ := h.2.2.2.2.1 c hc
  unfold sp_open
  rw [if_neg (fun z => z hC), if_neg (fun z => z hv), hy, ← z2]
  by_cases c1 : σ 11 c = -1
  · rw [if_pos c1]
    exact ⟨-8, σ, rfl, rfl, by simp, h.1, fun _ => rfl, c1, fun _ => ⟨rfl, pvI_add0 h⟩, fun z => absurd c1 z⟩
  · rw [if_neg c1]
    have g1 : pgI n (pgU σ 11 c (-1)) := pgI_u h.1 (Or.inr (Or.inr (Or.inr (Or.inr (Or.inr (Or.inr (Or.inr (Or.inr (Or.inr (Or.inr ⟨rfl, rfl⟩))))))))))
    have hs : v - φ 3 c = 0 ↔ v = φ 3 c := by
      constructor
      · intro z; grind
      · intro z; grind
    by_cases c2 : v - φ 3 c = 0
    · rw [if_pos c2]
      refine ⟨v - φ 3 c, pgU σ 11 c (-1), rfl, rfl, by simp, g1, fun i => pvE_t (by omega), pgU_self, fun z => absurd z c1, fun _ => ⟨rfl, fun _ => pvI_add0 ?_, fun z => absurd (hs.mp c2) z⟩⟩
      refine pvI_cr h g1 ?_ (fun t ht i => by
      have q1 : t ≠ 11 := by omega
      have q2 : t ≠ 12 := by omega
      have q3 : t ≠ 13 := by omega
      simp [pgU, q1, q2, q3]) (fun a => by simp [pgU]) (fun a => by simp [pgU]) (fun a ha => ?_) (by simp [pgU]) (fun a => rfl) (fun i => rfl)
      · simpa [pvN, pgU] using h.2.1
      · simpa [pvK, pgU] using h.2.2.2.2.1 a ha
    · rw [if_neg c2]
      have g2 : pgI n (pgU (pgU σ 11 c (-1)) 13 2 (σ 13 2 + 1)) := pgI_u g1 (by omega)
      refine ⟨v - φ 3 c, pgU (pgU σ 11 c (-1)) 13 2 (σ 13 2 + 1), rfl, rfl, by simp, g2, fun i => pvE_congr (by simp [pgU]) (by simp [pgU]) (by simp [pgU]) (by simp [pgU]) (by simp [pgU]) (by simp [pgU]), by simp [pgU], fun z => absurd z c1, fun _ => ⟨rfl, fun z => absurd (hs.mpr z) c2, fun _ => ?_⟩⟩
      refine pvI_cr h g2 ?_ (fun t ht i => by
      have q1 : t ≠ 11 := by omega
      have q2 : t ≠ 12 := by omega
      have q3 : t ≠ 13 := by omega
      simp [pgU, q1, q2, q3]) (fun a => by simp [pgU]) (fun a => by simp [pgU]) (fun a ha => ?_) (by simp [pgU]) (fun a => by simp [pgU]) (fun i => by simp [pgU])
      · obtain ⟨n1, n2, n3, n4, n5⟩ := h.2.1
        exact ⟨by simp [pgU, n1], by simp [pgU, n2], by simp [pgU, n3], by simp [pgU, n4], by simp [pgU, n5]⟩
      · simpa [pvK, pgU] using h.2.2.2.2.1 a ha
theorem pv_cnt0 (h : pgI n σ) : (σ 11 c = -1 ∧ 0 < pgCnt σ n (nI c)) ↔ ¬ (σ 11 c ≠ -1 ∨ pgCnt σ n (nI c) = 0) := by
  have h1 := h.1
  unfold pgCnt
  have h2 := pgN_le (fun j => decide (σ 3 j = nI c)) n
  generalize pgN (fun j => decide (σ 3 j = nI c)) n = N at *
  have e : (0 : Int32) < nI N ↔ ¬ nI N = 0 := by
    rw [pv_0 (by omega), ← nI_0, nI_ltI (by omega) (by omega)]
    omega
  rw [e]
  grind
theorem pv_carry (h : pvI n σ φ m Bd) (hc : c < 10) (hk : k < 8) : ∃ t τ, pvT (sp_carry σ (nI c) (nI k)) = t ∧ (sp_carry σ (nI c) (nI k)).2.2 = τ ∧ (sp_carry σ (nI c) (nI k)).1 ≠ 1 ∧ pgI n τ ∧
    (nI k = σ 10 c → t = -9 ∧ (∀ i, pvE τ i = pvE σ i) ∧ pvI n τ φ m Bd) ∧
    (nI k ≠ σ 10 c → ¬ (σ 11 c ≠ -1 ∨ pgCnt σ n (nI c) = 0) → t = -8 ∧ (∀ i, pvE τ i = pvE σ i) ∧ pvI n τ φ m Bd) ∧
    (nI k ≠ σ 10 c → (σ 11 c ≠ -1 ∨ pgCnt σ n (nI c) = 0) → t = σ 10 c ∧ τ 10 c = nI k ∧ τ 11 c = σ 11 c ∧ (∀ i, τ 3 i = σ 3 i) ∧ (∀ i, i < n → σ 3 i = nI c → τ 2 i = nI k) ∧ (∀ i, σ 3 i ≠ nI c → pvE τ i = pvE σ i) ∧ pvI n τ (pgU φ 0 1 (φ 0 1 + pgCnt σ n (nI c))) m Bd) := by
  obtain ⟨hC, hy⟩ := pv_isC hc
  have hK := pv_isK hk
  unfold sp_carry
  rw [if_neg (fun z => z ⟨hC, hK⟩), hy, pgI_n h.1]
  by_cases c1 : nI k = σ 10 c
  · rw [if_pos c1]
    exact ⟨-9, σ, rfl, rfl, by simp, h.1, fun _ => ⟨rfl, fun _ => rfl, h⟩, fun z => absurd c1 z, fun z => absurd c1 z⟩
  rw [if_neg c1]
  by_cases c2 : σ 11 c = -1 ∧ 0 < pgCnt σ n (nI c)
  · rw [if_pos c2]
    exact ⟨-8, σ, rfl, rfl, by simp, h.1, fun z => absurd z c1, fun _ _ => ⟨rfl, fun _ => rfl, h⟩, fun _ z => absurd z ((pv_cnt0 h.1).mp c2)⟩
  · rw [if_neg c2]
    have g : pgI n (pgHoN (pgU σ 10 c (nI k)) (nI c) (nI k) n) := pgI_hoN (pgI_u h.1 (by omega))
    have e3 : ∀ i, pgHoN (pgU σ 10 c (nI k)) (nI c) (nI k) n 3 i = σ 3 i := fun i => by simp [pgHoN, pgU]
    have e13 : pgHoN (pgU σ 10 c (nI k)) (nI c) (nI k) n 13 3 = σ 13 3 + pgCnt σ n (nI c) := by simp [pgHoN, pgCnt, pgU]
    have e2 : ∀ i, i < n → σ 3 i = nI c → pgHoN (pgU σ 10 c (nI k)) (nI c) (nI k) n 2 i = nI k := fun i hi hz => by simp [pgHoN, pgU, hi, hz]
    have eo : ∀ i, σ 3 i ≠ nI c → ∀ t, t < 10 → pgHoN (pgU σ 10 c (nI k)) (nI c) (nI k) n t i = σ t i := fun i hz t ht => by
      have q1 : t ≠ 13 := by omega
      have q2 : t ≠ 10 := by omega
      simp [pgHoN, pgU, hz, q1, q2]
    have et : ∀ i t, t < 10 → t ≠ 2 → pgHoN (pgU σ 10 c (nI k)) (nI c) (nI k) n t i = σ t i := fun i t ht h2 => by
      have q1 : t ≠ 13 := by omega
      have q2 : t ≠ 10 := by omega
      have q3 : t ≠ 14 := by omega
      simp [pgHoN, pgU, h2, q1, q2, q3]
    have e10 : ∀ i, pgHoN (pgU σ 10 c (nI k)) (nI c) (nI k) n 10 i = if i = c then nI k else σ 10 i := fun i => by simp [pgHoN, pgU]
    have e12 : ∀ i, pgHoN (pgU σ 10 c (nI k)) (nI c) (nI k) n 12 i = σ 12 i := fun i => by simp [pgHoN, pgU]
    have e11 : pgHoN (pgU σ 10 c (nI k)) (nI c) (nI k) n 11 c = σ 11 c := by simp [pgHoN, pgU]
    have n0 : ∀ i, i ≠ 3 → pgHoN (pgU σ 10 c (nI k)) (nI c) (nI k) n 13 i = σ 13 i := fun i hi => by simp [pgHoN, pgU, hi]
    generalize hT : pgHoN (pgU σ 10 c (nI k)) (nI c) (nI k) n = T at *
    refine ⟨σ 10 c, T, rfl, rfl, by simp, g, fun z => absurd z c1, fun _ z => absurd c2 (fun z2 => z (by
      by_cases z3 : (σ 11 c ≠ -1 ∨ pgCnt σ n (nI c) = 0)
      · exact z3
      · exact absurd ((pv_cnt0 h.1).mpr z3) c2)), fun _ _ => ⟨rfl, by rw [e10, if_pos rfl], e11, e3, e2, fun i hi => pvE_congr (eo i hi 2 (by omega)) (eo i hi 3 (by omega)) (eo i hi 4 (by omega)) (eo i hi 6 (by omega)) (eo i hi 8 (by omega)) (eo i hi 9 (by omega)), ?_⟩⟩
    obtain ⟨i1, i2, i3, i4, i5, ⟨C, b1, b2, b3⟩, i7⟩ := h
    refine ⟨g, ?_, fun i hi => ?_, fun i hi hi2 => by simpa [pgU] using i4 i hi hi2, fun i hi => ?_, ⟨C, b1, (n0 4 (by omega)).trans b2, fun i hi => by rw [et i 9 (by omega) (by omega)]; exact b3 i hi⟩, fun i hi => by rw [et i 5 (by omega) (by omega)]; exact i7 i hi⟩
    · obtain ⟨n1, n2, n3, n4, n5⟩ := i2
      refine ⟨by simpa [pgU] using n1, ?_, ?_, ?_, ?_⟩
      · rw [e13, pgU_self, n2]
      · rw [n0 4 (by omega)]; simpa [pgU] using n3
      · rw [n0 1 (by omega)]; simpa [pgU] using n4
      · rw [n0 2 (by omega)]; simpa [pgU] using n5
    · obtain ⟨d1, d2, d3, d4, d5, d6⟩ := i3 i hi
      unfold pvD
      rw [e3, et i 0 (by omega) (by omega), et i 1 (by omega) (by omega), et i 4 (by omega) (by omega), et i 5 (by omega) (by omega), et i 6 (by omega) (by omega), et i 7 (by omega) (by omega)]
      have p2 : pgU φ 0 1 (φ 0 1 + pgCnt σ n (nI c)) 2 i = φ 2 i := by simp [pgU]
      have p4 : pgU φ 0 1 (φ 0 1 + pgCnt σ n (nI c)) 4 i = φ 4 i := by simp [pgU]
      rw [p2, p4]
      by_cases hz : σ 3 i = nI c
      · have hm1 : σ 3 i ≠ -1 := by rw [hz]; exact pv_nm1 (by omega)
        have hf := (d2.resolve_left hm1).2
        rw [e2 i hi hz]
        refine ⟨⟨k, hk, rfl⟩, Or.inr ⟨?_, hf⟩, Or.inl hf, d4, d5, d6⟩
        rw [hz, hy, e10, if_pos rfl]
      · rw [eo i hz 2 (by omega)]
        refine ⟨d1, ?_, d3, d4, d5, d6⟩
        rcases i1.2.2.1 i hi with z | ⟨c9, hc9, z⟩
        · exact Or.inl z
        · have hne : ix (σ 3 i) ≠ c := by
            rw [z, (pv_isC hc9).2]
            intro z2
            exact hz (by rw [z, z2])
          rw [e10, if_neg hne]
          exact d2
    · obtain ⟨z1, z2, z3⟩ := i5 i hi
      refine ⟨?_, ?_, ?_⟩
      · rw [e10]
        by_cases e : i = c
        · rw [if_pos e]; exact ⟨k, hk, rfl⟩
        · rw [if_neg e]; exact z1
      · rw [e12]; simpa [pgU] using z2
      · rw [e12]; exact z3
theorem pv_certify (h : pvI n σ φ m Bd) (hB : Bd ≤ 1000) (hk : k < 8) : ∃ t τ, pvT (sp_certify σ (nI k)) = t ∧ (sp_certify σ (nI k)).2.2 = τ ∧ (sp_certify σ (nI k)).1 ≠ 1 ∧ pgI n τ ∧
    (pgCeN σ (nI k) n = 0 → t = -10 ∧ (∀ i, pvE τ i = pvE σ i) ∧ pvI n τ (pgU φ 0 2 (φ 0 2 + 0)) m (Bd + 1)) ∧
    (pgCeN σ (nI k) n ≠ 0 → t = nI (pgCeN σ (nI k) n) ∧ (∀ i, i < n → (σ 2 i = nI k ∧ pgAw σ i) → τ 9 i = σ 13 4) ∧ pvI n τ (pgU φ 0 2 (φ 0 2 + 1)) m (Bd + 1)) ∧
    (∀ i, ¬ (σ 2 i = nI k ∧ pgAw σ i) → pvE τ i = pvE σ i) := by
  have hK := pv_isK hk
  unfold sp_certify
  rw [if_neg (fun z => z hK), pgI_n h.1]
  by_cases c1 : pgCeN σ (nI k) n = 0
  · rw [if_pos c1]
    exact ⟨-10, σ, rfl, rfl, by simp, h.1, fun _ => ⟨rfl, fun _ => rfl, pvI_le (pvI_add0 h) (by omega)⟩, fun z => absurd c1 z, fun _ _ => rfl⟩
  · rw [if_neg c1]
    have g : pgI n (pgU (pgCe σ (nI k) (σ 13 4) n) 13 4 (σ 13 4 + 1)) := pgI_u (pgI_ce h.1) (by omega)
    have et : ∀ t i, t ≠ 9 → t ≠ 13 → pgU (pgCe σ (nI k) (σ 13 4) n) 13 4 (σ 13 4 + 1) t i = σ t i := fun t i h1 h2 => by simp [pgU, pgCe, h1, h2]
    have e9 : ∀ i, pgU (pgCe σ (nI k) (σ 13 4) n) 13 4 (σ 13 4 + 1) 9 i = if i < n ∧ σ 2 i = nI k ∧ pgAw σ i then σ 13 4 else σ 9 i := fun i => by simp [pgU, pgCe]
    have e13 : ∀ i, i ≠ 4 → pgU (pgCe σ (nI k) (σ 13 4) n) 13 4 (σ 13 4 + 1) 13 i = σ 13 i := fun i hi => by simp [pgU, pgCe, hi]
    have e134 : pgU (pgCe σ (nI k) (σ 13 4) n) 13 4 (σ 13 4 + 1) 13 4 = σ 13 4 + 1 := pgU_self
    generalize hT : pgU (pgCe σ (nI k) (σ 13 4) n) 13 4 (σ 13 4 + 1) = T at *
    refine ⟨nI (pgCeN σ (nI k) n), T, rfl, rfl, by simp, g, fun z => absurd z c1, fun _ => ⟨rfl, fun i hi ho => by rw [e9, if_pos ⟨hi, ho⟩], ?_⟩, fun i hi => pvE_congr (et 2 i (by omega) (by omega)) (et 3 i (by omega) (by omega)) (et 4 i (by omega) (by omega)) (et 6 i (by omega) (by omega)) (et 8 i (by omega) (by omega)) (by rw [e9, if_neg (fun z => hi z.2)])⟩
    obtain ⟨i1, i2, i3, i4, i5, ⟨C, b1, b2, b3⟩, i7⟩ := h
    refine ⟨g, ?_, fun i hi => pvD_congr (i3 i hi) (fun t ht => et t i (by omega) (by omega)) (fun a => et 10 a (by omega) (by omega)) (by simp [pgU]) (by simp [pgU]), fun i hi hi2 => by simpa [pgU] using i4 i hi hi2, fun i hi => ?_, ⟨C + 1, by omega, ?_, fun i hi => ?_⟩, fun i hi => by rw [et 5 i (by omega) (by omega)]; exact i7 i hi⟩
    · obtain ⟨n1, n2, n3, n4, n5⟩ := i2
      refine ⟨by simpa [pgU] using n1, ?_, ?_, ?_, ?_⟩
      · rw [e13 3 (by omega)]; simpa [pgU] using n2
      · rw [e134, pgU_self, n3]
      · rw [e13 1 (by omega)]; simpa [pgU] using n4
      · rw [e13 2 (by omega)]; simpa [pgU] using n5
    · obtain ⟨z1, z2, z3⟩ := i5 i hi
      refine ⟨?_, ?_, ?_⟩
      · rw [et 10 i (by omega) (by omega)]; exact z1
      · rw [et 12 i (by omega) (by omega)]; simpa [pgU] using z2
      · rw [et 12 i (by omega) (by omega)]; exact z3
    · rw [e134, b2]; exact nI_1 C
    · rw [e9]
      by_cases ho : i < n ∧ σ 2 i = nI k ∧ pgAw σ i
      · rw [if_pos ho]; exact Or.inr ⟨C, by omega, b2⟩
      · rw [if_neg ho]
        rcases b3 i hi with z | ⟨k9, z1, z2⟩
        · exact Or.inl z
        · exact Or.inr ⟨k9, by omega, z2⟩
theorem pv_bring (h : pvI n σ φ m Bd) (hn : n < 60) (ha : a < 3) (hb : b < 4) (hq : q < 8) : ∃ τ, sp_bring σ (nI a) (nI b) (nI q) = (0, nI n, τ) ∧ τ 2 n = nI q ∧ τ 4 n = 0 ∧ τ 3 n = -1 ∧ pvI (n + 1) τ (pgU (pgU (pgU φ 2 n (nI (a + 4 * b))) 0 0 (φ 0 0 + 1)) 0 1 (φ 0 1 + 1)) m Bd := by
  have hK := pv_isK hq
  have h2 := h.1.2.1
  have hix : ix (σ 13 0) = n := pgI_n h.1
  have hs : σ 13 0 < 60 := by rw [h2]; exact nI_lt (b := 60) hn (by omega)
  have hA : 0 ≤ nI a ∧ nI a < 3 ∧ 0 ≤ nI b ∧ nI b < 4 := ⟨nI_pos' (by omega), nI_lt (b := 3) ha (by omega), nI_pos' (by omega), nI_lt (b := 4) hb (by omega)⟩
  unfold sp_bring
  rw [if_neg (fun z => z hK), if_neg (fun z => z hA), if_neg (fun z => z hs), hix]
  obtain ⟨i1, i2, i3, i4, i5, ⟨C, b1, b2, b3⟩, i7⟩ := h
  obtain ⟨g1, g2, g3, ⟨K, k1, k2, k3⟩, g5, g6⟩ := i1
  have z4 := g5 n (Nat.le_refl n)
  refine ⟨_, by rw [h2], by simp, by simp [z4.1], by simp, ⟨⟨by omega, ?_, fun i hi => ?_, ⟨K, k1, ?_, fun c hc => ?_⟩, fun i hi => ?_, fun i hi => ?_⟩, ?_, fun i hi => ?_, fun i hi hi2 => ?_, fun i hi => ?_, ⟨C, b1, ?_, fun i hi => ?_⟩, fun i hi => ?_⟩⟩
  · simp [h2, nI_1]
  · have := g3 i
    try dsimp only
    grind (splits := 40)
  · simp [k2]
  · have := k3 c hc
    try dsimp only
    grind (splits := 40)
  · have := g5 i (by omega)
    try dsimp only
    grind (splits := 40)
  · have := g6 i
    try dsimp only
    grind (splits := 40)
  · obtain ⟨n1, n2, n3, n4, n5⟩ := i2
    exact ⟨by simp [pgU, n1, nI_1], by simp [pgU, n2], by simp [pgU, n3], by simp [pgU, n4], by simp [pgU, n5]⟩
  · by_cases e : i = n
    · subst e
      have z7 := i4 i (Nat.le_refl i) hn
      refine ⟨⟨q, hq, by simp⟩, Or.inl (by simp), Or.inl (by simp), Or.inl (by simp [z4.1]), ⟨a, b, ha, hb, by simp, by simp, by simp [pgU]⟩, by simp [pgU, z7]⟩
    · refine pvD_congr (i3 i (by omega)) (fun t ht => ?_) (fun a9 => by simp) (by simp [pgU, e]) (by simp [pgU, e])
      have q1 : t ≠ 13 := by omega
      simp [e, q1]
  · have := i4 i (by omega) hi2
    simpa [pgU] using this
  · have := i5 i hi
    obtain ⟨z1, z2, z3⟩ := this
    refine ⟨?_, ?_, ?_⟩
    · simpa using z1
    · simpa [pgU] using z2
    · simpa using z3
  · simp [b2]
  · by_cases e : i = n
    · subst e; left; simp
    · have := b3 i (by omega)
      simpa [e] using this
  · have := i7 i hi
    simpa using this
end PV24
