section PV23
variable {n j k c w q : Nat} {σ τ φ ψ : pgSt} {m m2 : Int64} {Bd : Nat}
theorem pv_wipe (h : pvI n σ φ m Bd) (hj : j < n) (hw : w < 3) (hk : k < 8) : ∃ t τ, pvT (sp_wipe σ (nI j) (nI w) (nI k)) = t ∧ (sp_wipe σ (nI j) (nI w) (nI k)).2.2 = τ ∧ (sp_wipe σ (nI j) (nI w) (nI k)).1 ≠ 1 ∧ pgI n τ ∧ (∀ i, i ≠ j → pvE τ i = pvE σ i) ∧
    (nI k = σ 2 j → t = -9 ∧ (∀ i, pvE τ i = pvE σ i) ∧ pvI n τ φ m Bd) ∧
    (nI k ≠ σ 2 j → (pgReach σ j ∧ σ 4 j ≠ 1 ∧ σ 4 j ≠ 3) → (nI w = σ 0 j ∧ σ 1 j < 3) → t = 1 ∧ τ 4 j = 1 ∧ ¬ pgFin τ j ∧ pvI n τ (pgU φ 4 j (σ 2 j)) m Bd) ∧
    (nI k ≠ σ 2 j → (pgReach σ j ∧ σ 4 j ≠ 1 ∧ σ 4 j ≠ 3) → ¬ (nI w = σ 0 j ∧ σ 1 j < 3) → t = 2 ∧ τ 4 j = 2 ∧ ¬ pgFin τ j ∧ pvI n τ (pgU φ 4 j (σ 2 j)) m Bd) ∧
    (nI k ≠ σ 2 j → ¬ (pgReach σ j ∧ σ 4 j ≠ 1 ∧ σ 4 j ≠ 3) → t = -8 ∧ τ 4 j = σ 4 j ∧ (pgFin τ j ↔ pgFin σ j) ∧ pvI n τ (pgU φ 4 j (φ 4 j)) m Bd) := by
  obtain ⟨hd, hx⟩ := pv_isD h.1 hj
  have hK := pv_isK hk
  obtain ⟨d1, d2, d3, d4, d5, d6⟩ := h.2.2.1 j hj
  have hW : 0 ≤ nI w ∧ nI w < 3 := ⟨nI_pos' (by omega), nI_lt (b := 3) hw (by omega)⟩
  unfold sp_wipe
  rw [if_neg (fun z => z ⟨hd, hK⟩), hx]
  by_cases c1 : nI k = σ 2 j
  · rw [if_pos (Or.inr c1)]
    exact ⟨-9, σ, rfl, rfl, by simp, h.1, fun _ _ => rfl, fun _ => ⟨rfl, fun _ => rfl, h⟩, fun z => absurd c1 z, fun z => absurd c1 z, fun z => absurd c1 z⟩
  rw [if_neg (fun z => z.elim (fun z => z hW) c1)]
  by_cases c2 : ¬ pgReach σ j ∨ σ 4 j = 1 ∨ σ 4 j = 3
  · rw [if_pos c2]
    exact ⟨-8, σ, rfl, rfl, by simp, h.1, fun _ _ => rfl, fun z => absurd z c1, fun _ z => absurd c2 (by grind), fun _ z => absurd c2 (by grind), fun _ _ => ⟨rfl, rfl, Iff.rfl, pvI_same h⟩⟩
  · rw [if_neg c2]
    by_cases c3 : nI w = σ 0 j ∧ σ 1 j < 3
    · rw [if_pos c3]
      have g : pgI n (pgU (pgU (pgU σ 4 j 1) 7 j (σ 2 j)) 8 j 0) := pgI_u (pgI_u (pgI_u h.1 (by omega)) (by omega)) (by omega)
      have hT : pvI n (pgU (pgU (pgU σ 4 j 1) 7 j (σ 2 j)) 8 j 0) (pgU φ 4 j (σ 2 j)) m Bd := by
        refine pvI_one h hj g ?_ (fun i hi t ht => by simp [pgU, hi]) (fun a => by simp [pgU]) (fun a => by simp [pgU]) (fun a => by simp [pgU]) (by simp [pgU]) (fun a => by simp [pgU]) (fun a => by simp [pgU]) (fun i hi => by simp [pgU, hi]) ?_ (fun i hi => by simpa [pgU] using h.2.2.2.2.2.2 i hi)
        · simpa [pvN, pgU] using h.2.1
        · refine ⟨?_, ?_, ?_, ?_, ?_, ?_⟩
          · simpa [pgU] using d1
          · simpa [pgU] using d2
          · simpa [pgU] using d3
          · simp [pgU]
          · simpa [pgU] using d5
          · simp [pgU]
      refine ⟨1, pgU (pgU (pgU σ 4 j 1) 7 j (σ 2 j)) 8 j 0, rfl, rfl, by simp, g, fun i hi => pvE_congr (by simp [pgU, hi]) (by simp [pgU, hi]) (by simp [pgU, hi]) (by simp [pgU, hi]) (by simp [pgU, hi]) (by simp [pgU, hi]), fun z => absurd z c1, fun _ _ _ => ⟨rfl, by simp [pgU], by simp [pgU, pgFin], hT⟩, fun _ _ z => absurd c3 z, fun _ z => absurd ⟨Classical.not_not.mp (fun z2 => c2 (Or.inl z2)), fun z2 => c2 (Or.inr (Or.inl z2)), fun z2 => c2 (Or.inr (Or.inr z2))⟩ z⟩
    · rw [if_neg c3]
      have g : pgI n (pgU (pgU (pgU σ 4 j 2) 7 j (σ 2 j)) 8 j 0) := pgI_u (pgI_u (pgI_u h.1 (by omega)) (by omega)) (by omega)
      have hT : pvI n (pgU (pgU (pgU σ 4 j 2) 7 j (σ 2 j)) 8 j 0) (pgU φ 4 j (σ 2 j)) m Bd := by
        refine pvI_one h hj g ?_ (fun i hi t ht => by simp [pgU, hi]) (fun a => by simp [pgU]) (fun a => by simp [pgU]) (fun a => by simp [pgU]) (by simp [pgU]) (fun a => by simp [pgU]) (fun a => by simp [pgU]) (fun i hi => by simp [pgU, hi]) ?_ (fun i hi => by simpa [pgU] using h.2.2.2.2.2.2 i hi)
        · simpa [pvN, pgU] using h.2.1
        · refine ⟨?_, ?_, ?_, ?_, ?_, ?_⟩
          · simpa [pgU] using d1
          · simpa [pgU] using d2
          · simpa [pgU] using d3
          · simp [pgU]
          · simpa [pgU] using d5
          · simp [pgU]
      refine ⟨2, pgU (pgU (pgU σ 4 j 2) 7 j (σ 2 j)) 8 j 0, rfl, rfl, by simp, g, fun i hi => pvE_congr (by simp [pgU, hi]) (by simp [pgU, hi]) (by simp [pgU, hi]) (by simp [pgU, hi]) (by simp [pgU, hi]) (by simp [pgU, hi]), fun z => absurd z c1, fun _ _ z => absurd z c3, fun _ _ _ => ⟨rfl, by simp [pgU], by simp [pgU, pgFin], hT⟩, fun _ z => absurd ⟨Classical.not_not.mp (fun z2 => c2 (Or.inl z2)), fun z2 => c2 (Or.inr (Or.inl z2)), fun z2 => c2 (Or.inr (Or.inr z2))⟩ z⟩
theorem pv_smash (h : pvI n σ φ m Bd) (hj : j < n) (hk : k < 8) : ∃ t τ, pvT (sp_smash σ (nI j) (nI k)) = t ∧ (sp_smash σ (nI j) (nI k)).2.2 = τ ∧ (sp_smash σ (nI j) (nI k)).1 ≠ 1 ∧ pvI n τ φ m Bd ∧ (∀ i, i ≠ j → pvE τ i = pvE σ i) ∧
    (nI k = σ 2 j → t = -9 ∧ (∀ i, pvE τ i = pvE σ i)) ∧
    (nI k ≠ σ 2 j → (pgReach σ j ∧ σ 4 j ≠ 3) → t = σ 4 j ∧ τ 4 j = 3 ∧ pgFin τ j) ∧
    (nI k ≠ σ 2 j → ¬ (pgReach σ j ∧ σ 4 j ≠ 3) → t = -8 ∧ τ 4 j = σ 4 j ∧ (pgFin τ j ↔ pgFin σ j)) := by
  obtain ⟨hd, hx⟩ := pv_isD h.1 hj
  have hK := pv_isK hk
  obtain ⟨d1, d2, d3, d4, d5, d6⟩ := h.2.2.1 j hj
  unfold sp_smash
  rw [if_neg (fun z => z ⟨hd, hK⟩), hx]
  by_cases c1 : nI k = σ 2 j
  · rw [if_pos c1]
    exact ⟨-9, σ, rfl, rfl, by simp, h, fun _ _ => rfl, fun _ => ⟨rfl, fun _ => rfl⟩, fun z => absurd c1 z, fun z => absurd c1 z⟩
  rw [if_neg c1]
  by_cases c2 : ¬ pgReach σ j ∨ σ 4 j = 3
  · rw [if_pos c2]
    exact ⟨-8, σ, rfl, rfl, by simp, h, fun _ _ => rfl, fun z => absurd z c1, fun _ z => absurd c2 (by grind), fun _ _ => ⟨rfl, rfl, Iff.rfl⟩⟩
  · rw [if_neg c2]
    have g : pgI n (pgU σ 4 j 3) := pgI_u h.1 (by omega)
    refine ⟨σ 4 j, pgU σ 4 j 3, rfl, rfl, by simp, ?_, fun i hi => pvE_u hi, fun z => absurd z c1, fun _ _ => ⟨rfl, pgU_self, Or.inl pgU_self⟩, fun _ z => absurd ⟨Classical.not_not.mp (fun z2 => c2 (Or.inl z2)), fun z2 => c2 (Or.inr z2)⟩ z⟩
    refine pvI_one h hj g ?_ (fun i hi t ht => by simp [pgU, hi]) (fun a => by simp [pgU]) (fun a => by simp [pgU]) (fun a => by simp [pgU]) (by simp [pgU]) (fun a => rfl) (fun a => rfl) (fun i _ => rfl) ?_ (fun i hi => by simpa [pgU] using h.2.2.2.2.2.2 i hi)
    · simpa [pvN, pgU] using h.2.1
    · refine ⟨?_, ?_, ?_, ?_, ?_, ?_⟩
      · simpa [pgU] using d1
      · simpa [pgU] using d2
      · simpa [pgU] using d3
      · simp [pgU]
      · simpa [pgU] using d5
      · simpa [pgU] using d6
theorem pv_check1 (h : pvI n σ φ m Bd) (hj : j < n) (hk : k < 8) : ∃ t τ, pvT (sp_check σ (nI j) (nI k) 1) = t ∧ (sp_check σ (nI j) (nI k) 1).2.2 = τ ∧ (sp_check σ (nI j) (nI k) 1).1 ≠ 1 ∧ pvI n τ φ m Bd ∧ (∀ i, i ≠ j → pvE τ i = pvE σ i) ∧
    ((σ 4 j = 1 ∧ φ 4 j = nI k) → t = -9 ∧ τ 4 j = σ 4 j ∧ (pgFin τ j ↔ pgFin σ j)) ∧
    (¬ (σ 4 j = 1 ∧ φ 4 j = nI k) → (pgReach σ j ∧ σ 4 j = 1) → t = 1 ∧ τ 4 j = 1 ∧ pgFin τ j) ∧
    (¬ (σ 4 j = 1 ∧ φ 4 j = nI k) → ¬ (pgReach σ j ∧ σ 4 j = 1) → t = -8 ∧ τ 4 j = σ 4 j ∧ (pgFin τ j ↔ pgFin σ j)) := by
  obtain ⟨hd, hx⟩ := pv_isD h.1 hj
  have hK := pv_isK hk
  obtain ⟨d1, d2, d3, d4, d5, d6⟩ := h.2.2.1 j hj
  unfold sp_check
  rw [if_neg (fun z => z ⟨hd, hK⟩), hx]
  have e0 : (σ 4 j = 1 ∧ nI k = σ 7 j) ↔ (σ 4 j = 1 ∧ φ 4 j = nI k) := by
    rw [d6]
    exact ⟨fun z => ⟨z.1, z.2.symm⟩, fun z => ⟨z.1, z.2.symm⟩⟩
  by_cases c1 : σ 4 j = 1 ∧ φ 4 j = nI k
  · rw [if_pos (e0.mpr c1)]
    exact ⟨-9, σ, rfl, rfl, by simp, h, fun _ _ => rfl, fun _ => ⟨rfl, rfl, Iff.rfl⟩, fun z => absurd c1 z, fun z => absurd c1 z⟩
  rw [if_neg (fun z => c1 (e0.mp z))]
  by_cases c2 : ¬ pgReach σ j ∨ σ 4 j ≠ 1
  · rw [if_pos c2]
    exact ⟨-8, σ, rfl, rfl, by simp, h, fun _ _ => rfl, fun z => absurd z c1, fun _ z => absurd c2 (by grind), fun _ _ => ⟨rfl, rfl, Iff.rfl⟩⟩
  · rw [if_neg c2, if_neg (by decide)]
    have gg : pgI n (pgU (pgU σ 8 j 1) 4 j 1) := pgI_u (pgI_u h.1 (by omega)) (by omega)
    refine ⟨1, pgU (pgU σ 8 j 1) 4 j 1, rfl, rfl, by simp, ?_, fun i hi => pvE_congr (by simp [pgU, hi]) (by simp [pgU, hi]) (by simp [pgU, hi]) (by simp [pgU, hi]) (by simp [pgU, hi]) (by simp [pgU, hi]), fun z => absurd z c1, fun _ _ => ⟨rfl, pgU_self, by simp [pgU, pgFin]⟩, fun _ z => absurd ⟨Classical.not_not.mp (fun z2 => c2 (Or.inl z2)), Classical.not_not.mp (fun z2 => c2 (Or.inr z2))⟩ z⟩
    refine pvI_one h hj gg ?_ (fun i hi t ht => by simp [pgU, hi]) (fun a => by simp [pgU]) (fun a => by simp [pgU]) (fun a => by simp [pgU]) (by simp [pgU]) (fun a => rfl) (fun a => rfl) (fun i _ => rfl) ?_ (fun i hi => by simpa [pgU] using h.2.2.2.2.2.2 i hi)
    · simpa [pvN, pgU] using h.2.1
    · refine ⟨?_, ?_, ?_, ?_, ?_, ?_⟩
      · simpa [pgU] using d1
      · simpa [pgU] using d2
      · simpa [pgU] using d3
      · simp [pgU]
      · simpa [pgU] using d5
      · simpa [pgU] using d6
theorem pv_check0 (h : pvI n σ φ m Bd) (hj : j < n) (hk : k < 8) : ∃ t τ, pvT (sp_check σ (nI j) (nI k) 0) = t ∧ (sp_check σ (nI j) (nI k) 0).2.2 = τ ∧ (sp_check σ (nI j) (nI k) 0).1 ≠ 1 ∧ pvI n τ φ m Bd ∧ (∀ i, i ≠ j → pvE τ i = pvE σ i) ∧
    ((σ 4 j = 1 ∧ φ 4 j = nI k) → t = -9 ∧ τ 4 j = σ 4 j ∧ (pgFin τ j ↔ pgFin σ j)) ∧
    (¬ (σ 4 j = 1 ∧ φ 4 j = nI k) → (pgReach σ j ∧ σ 4 j = 1) → t = 2 ∧ τ 4 j = 2 ∧ ¬ pgFin τ j) ∧
    (¬ (σ 4 j = 1 ∧ φ 4 j = nI k) → ¬ (pgReach σ j ∧ σ 4 j = 1) → t = -8 ∧ τ 4 j = σ 4 j ∧ (pgFin τ j ↔ pgFin σ j)) := by
  obtain ⟨hd, hx⟩ := pv_isD h.1 hj
  have hK := pv_isK hk
  obtain ⟨d1, d2, d3, d4, d5, d6⟩ := h.2.2.1 j hj
  unfold sp_check
  rw [if_neg (fun z => z ⟨hd, hK⟩), hx]
  have e0 : (σ 4 j = 1 ∧ nI k = σ 7 j) ↔ (σ 4 j = 1 ∧ φ 4 j = nI k) := by
    rw [d6]
    exact ⟨fun z => ⟨z.1, z.2.symm⟩, fun z => ⟨z.1, z.2.symm⟩⟩
  by_cases c1 : σ 4 j = 1 ∧ φ 4 j = nI k
  · rw [if_pos (e0.mpr c1)]
    exact ⟨-9, σ, rfl, rfl, by simp, h, fun _ _ => rfl, fun _ => ⟨rfl, rfl, Iff.rfl⟩, fun z => absurd c1 z, fun z => absurd c1 z⟩
  rw [if_neg (fun z => c1 (e0.mp z))]
  by_cases c2 : ¬ pgReach σ j ∨ σ 4 j ≠ 1
  · rw [if_pos c2]
    exact ⟨-8, σ, rfl, rfl, by simp, h, fun _ _ => rfl, fun z => absurd z c1, fun _ z => absurd c2 (by grind), fun _ _ => ⟨rfl, rfl, Iff.rfl⟩⟩
  · rw [if_neg c2, if_pos rfl]
    have gg : pgI n (pgU (pgU σ 8 j 0) 4 j 2) := pgI_u (pgI_u h.1 (by omega)) (by omega)
    refine ⟨2, pgU (pgU σ 8 j 0) 4 j 2, rfl, rfl, by simp, ?_, fun i hi => pvE_congr (by simp [pgU, hi]) (by simp [pgU, hi]) (by simp [pgU, hi]) (by simp [pgU, hi]) (by simp [pgU, hi]) (by simp [pgU, hi]), fun z => absurd z c1, fun _ _ => ⟨rfl, pgU_self, by simp [pgU, pgFin]⟩, fun _ z => absurd ⟨Classical.not_not.mp (fun z2 => c2 (Or.inl z2)), Classical.not_not.mp (fun z2 => c2 (Or.inr z2))⟩ z⟩
    refine pvI_one h hj gg ?_ (fun i hi t ht => by simp [pgU, hi]) (fun a => by simp [pgU]) (fun a => by simp [pgU]) (fun a => by simp [pgU]) (by simp [pgU]) (fun a => rfl) (fun a => rfl) (fun i _ => rfl) ?_ (fun i hi => by simpa [pgU] using h.2.2.2.2.2.2 i hi)
    · simpa [pvN, pgU] using h.2.1
    · refine ⟨?_, ?_, ?_, ?_, ?_, ?_⟩
      · simpa [pgU] using d1
      · simpa [pgU] using d2
      · simpa [pgU] using d3
      · simp [pgU]
      · simpa [pgU] using d5
      · simpa [pgU] using d6
theorem pv_lose (h : pvI n σ φ m Bd) (hj : j < n) : ∃ t τ, pvT (sp_lose σ (nI j)) = t ∧ (sp_lose σ (nI j)).2.2 = τ ∧ (sp_lose σ (nI j)).1 ≠ 1 ∧ pgI n τ ∧ (∀ i, i ≠ j → pvE τ i = pvE σ i) ∧
    (σ 5 j ≠ 0 → t = -8 ∧ (∀ i, pvE τ i = pvE σ i) ∧ pvI n τ φ m Bd) ∧
    (σ 5 j = 0 → t = τ 2 j ∧ τ 3 j = σ 3 j ∧ τ 6 j = -1 ∧ pvI n τ φ (m ^^^ ((1 : Int64) <<< ((nI j).toInt64 &&& 63))) Bd) := by
  obtain ⟨hd, hx⟩ := pv_isD h.1 hj
  obtain ⟨d1, d2, d3, d4, d5, d6⟩ := h.2.2.1 j hj
  have h64 := pv_j64 h hj
  unfold sp_lose
  rw [if_neg (fun z => z hd), hx]
  by_cases c1 : σ 5 j ≠ 0
  · rw [if_pos c1]
    exact ⟨-8, σ, rfl, rfl, by simp, h.1, fun _ _ => rfl, fun _ => ⟨rfl, fun _ => rfl, h⟩, fun z => absurd z c1⟩
  · rw [if_neg c1]
    have c0 := Classical.not_not.mp c1
    have g : pgI n (pgU (pgU σ 5 j 1) 6 j (-1)) := pgI_u (pgI_u h.1 (by omega)) (by omega)
    refine ⟨σ 2 j, pgU (pgU σ 5 j 1) 6 j (-1), rfl, rfl, by simp, g, fun i hi => pvE_congr (by simp [pgU, hi]) (by simp [pgU, hi]) (by simp [pgU, hi]) (by simp [pgU, hi]) (by simp [pgU, hi]) (by simp [pgU, hi]), fun z => absurd z c1, fun _ => ⟨by simp [pgU], by simp [pgU], by simp [pgU], ?_⟩⟩
    refine pvI_one h hj g ?_ (fun i hi t ht => by simp [pgU, hi]) (fun a => by simp [pgU]) (fun a => by simp [pgU]) (fun a => by simp [pgU]) (by simp [pgU]) (fun a => rfl) (fun a => rfl) (fun i _ => rfl) ?_ (fun i hi => ?_)
    · simpa [pvN, pgU] using h.2.1
    · refine ⟨?_, ?_, ?_, ?_, ?_, ?_⟩
      · simpa [pgU] using d1
      · rcases d2 with z | z
        · left; simpa [pgU] using z
        · right; simpa [pgU] using z.1
      · left; simp [pgU]
      · simpa [pgU] using d4
      · simpa [pgU] using d5
      · simpa [pgU] using d6
    · have h7 := h.2.2.2.2.2.2 i hi
      rw [pvB_xor, pvB_1 h64]
      by_cases e : i = j
      · subst e
        have : ¬ pvB m i := fun z => (h7.mp z) c0
        simp [pgU, this]
      · simp [pgU, e, h7]
theorem pv_find (h : pvI n σ φ m Bd) (hj : j < n) : ∃ t τ, pvT (sp_find σ (nI j)) = t ∧ (sp_find σ (nI j)).2.2 = τ ∧ (sp_find σ (nI j)).1 ≠ 1 ∧ pgI n τ ∧ (∀ i, i ≠ j → pvE τ i = pvE σ i) ∧
    (σ 5 j = 0 → t = -8 ∧ (∀ i, pvE τ i = pvE σ i) ∧ pvI n τ φ m Bd) ∧
    (σ 5 j ≠ 0 → t = σ 3 j ∧ τ 3 j = σ 3 j ∧ τ 6 j = -1 ∧ pvI n τ φ (m ^^^ ((1 : Int64) <<< ((nI j).toInt64 &&& 63))) Bd) := by
  obtain ⟨hd, hx⟩ := pv_isD h.1 hj
  obtain ⟨d1, d2, d3, d4, d5, d6⟩ := h.2.2.1 j hj
  have h64 := pv_j64 h hj
  unfold sp_find
  rw [if_neg (fun z => z hd), hx]
  by_cases c1 : σ 5 j = 0
  · rw [if_pos c1]
    exact ⟨-8, σ, rfl, rfl, by simp, h.1, fun _ _ => rfl, fun _ => ⟨rfl, fun _ => rfl, h⟩, fun z => absurd c1 z⟩
  · rw [if_neg c1]
    have c6 : σ 6 j = -1 := d3.elim id (fun z => absurd z.2.2 c1)
    have g : pgI n (pgU σ 5 j 0) := pgI_u h.1 (by omega)
    refine ⟨σ 3 j, pgU σ 5 j 0, rfl, rfl, by simp, g, fun i hi => pvE_u hi, fun z => absurd z c1, fun _ => ⟨rfl, by simp [pgU], by simpa [pgU] using c6, ?_⟩⟩
    refine pvI_one h hj g ?_ (fun i hi t ht => by simp [pgU, hi]) (fun a => by simp [pgU]) (fun a => by simp [pgU]) (fun a => by simp [pgU]) (by simp [pgU]) (fun a => rfl) (fun a => rfl) (fun i _ => rfl) ?_ (fun i hi => ?_)
    · simpa [pvN, pgU] using h.2.1
    · refine ⟨?_, ?_, ?_, ?_, ?_, ?_⟩
      · simpa [pgU] using d1
      · simpa [pgU] using d2
      · left; simpa [pgU] using c6
      · simpa [pgU] using d4
      · simpa [pgU] using d5
      · simpa [pgU] using d6
    · have h7 := h.2.2.2.2.2.2 i hi
      rw [pvB_xor, pvB_1 h64]
      by_cases e : i = j
      · subst e
        have : pvB m i := h7.mpr c1
        simp [pgU, this]
      · simp [pgU, e, h7]
end PV23
