/-! what every call keeps of the state -/
theorem pg_nm2 {k : Nat} (h : k < 2 ^ 31) : nI k ≠ -1 := fun z => nI_pos h (by rw [z]; decide)
section PGP
variable {n : Nat} {σ : pgSt} {ρ : Nat → Int32} {d c k to t w g way secr kind keeper : Int32}
theorem pgI_u (h : pgI n σ) {t i : Nat} {v : Int32} (ht : t = 6 ∨ t = 7 ∨ t = 9 ∨ t = 10 ∨ t = 12 ∨ t = 0 ∨ t = 1 ∨ (t = 13 ∧ (i = 2 ∨ i = 3 ∨ i = 4)) ∨ ((t = 4 ∨ t = 5 ∨ t = 8) ∧ i < n) ∨ (t = 3 ∧ (v = -1 ∨ ∃ c, c < 10 ∧ v = nI c)) ∨ (t = 11 ∧ v = -1)) : pgI n (pgU σ t i v) := by
  obtain ⟨h1, h2, h3, ⟨K, k1, k2, k3⟩, h5, h6⟩ := h
  refine ⟨h1, ?_, fun j hj => ?_, ⟨K, k1, ?_, fun c hc => ?_⟩, fun j hj => ?_, fun j hj => ?_⟩
  · simp only [pgU]; grind (splits := 40)
  · have := h3 j hj
    simp only [pgU]; grind (splits := 40)
  · simp only [pgU]; grind (splits := 40)
  · have := k3 c hc
    simp only [pgU]; grind (splits := 40)
  · have := h5 j hj
    simp only [pgU]; grind (splits := 40)
  · have := h6 j hj
    simp only [pgU]; grind (splits := 40)
theorem pgI_ho (h : pgI n σ) {j : Nat} : pgI n (pgHo σ j to) := by
  obtain ⟨h1, h2, h3, ⟨K, k1, k2, k3⟩, h5, h6⟩ := h
  refine ⟨h1, ?_, fun j hj => ?_, ⟨K, k1, ?_, fun c hc => ?_⟩, fun j hj => ?_, fun j hj => ?_⟩
  · simp only [pgHo, pgU]; grind (splits := 40)
  · have := h3 j hj
    simp only [pgHo, pgU]; grind (splits := 40)
  · simp only [pgHo, pgU]; grind (splits := 40)
  · have := k3 c hc
    simp only [pgHo, pgU]; grind (splits := 40)
  · have := h5 j hj
    simp only [pgHo, pgU]; grind (splits := 40)
  · have := h6 j hj
    simp only [pgHo, pgU]; grind (splits := 40)
theorem pgI_hoN (h : pgI n σ) {k : Nat} : pgI n (pgHoN σ c to k) := by
  obtain ⟨h1, h2, h3, ⟨K, k1, k2, k3⟩, h5, h6⟩ := h
  refine ⟨h1, ?_, fun j hj => ?_, ⟨K, k1, ?_, fun c hc => ?_⟩, fun j hj => ?_, fun j hj => ?_⟩
  · simp only [pgHoN]; grind (splits := 40)
  · have := h3 j hj
    simp only [pgHoN]; grind (splits := 40)
  · simp only [pgHoN]; grind (splits := 40)
  · have := k3 c hc
    simp only [pgHoN]; grind (splits := 40)
  · have := h5 j hj
    simp only [pgHoN]; grind (splits := 40)
  · have := h6 j hj
    simp only [pgHoN]; grind (splits := 40)
theorem pgI_ce (h : pgI n σ) {v : Int32} {i : Nat} : pgI n (pgCe σ k v i) := by
  obtain ⟨h1, h2, h3, ⟨K, k1, k2, k3⟩, h5, h6⟩ := h
  refine ⟨h1, ?_, fun j hj => ?_, ⟨K, k1, ?_, fun c hc => ?_⟩, fun j hj => ?_, fun j hj => ?_⟩
  · simp only [pgCe]; grind (splits := 40)
  · have := h3 j hj
    simp only [pgCe]; grind (splits := 40)
  · simp only [pgCe]; grind (splits := 40)
  · have := k3 c hc
    simp only [pgCe]; grind (splits := 40)
  · have := h5 j hj
    simp only [pgCe]; grind (splits := 40)
  · have := h6 j hj
    simp only [pgCe]; grind (splits := 40)
theorem pgR_u (h : pgRho σ ρ) {t i : Nat} {v : Int32} (ht : t ≠ 11 ∧ t ≠ 12 ∨ (t = 11 ∧ v = -1)) : pgRho (pgU σ t i v) ρ := by
  intro c k hc hk h1
  have e0 : nI k ≠ -1 := by
    exact pg_nm2 (by omega)
  have := h c k hc hk
  simp only [pgU] at h1 ⊢
  grind
theorem pgR_t (h : pgRho σ ρ) {σ2 : pgSt} (h1 : σ2 11 = σ 11) (h2 : σ2 12 = σ 12) : pgRho σ2 ρ := by
  intro c k hc hk h3
  rw [h2]
  exact h c k hc hk (by rw [← h1]; exact h3)
theorem kp_offer (h : pgI n σ) (hR : pgRho σ ρ) : pgI n (sp_offer σ d to).2.2 ∧ pgRho (sp_offer σ d to).2.2 ρ := by
  unfold sp_offer
  split
  · exact ⟨h, hR⟩
  split
  · exact ⟨h, hR⟩
  split
  · exact ⟨h, hR⟩
  exact ⟨pgI_u h (by omega), pgR_u hR (by omega)⟩
theorem kp_answer (h : pgI n σ) (hR : pgRho σ ρ) : pgI n (sp_answer σ d t).2.2 ∧ pgRho (sp_answer σ d t).2.2 ρ := by
  unfold sp_answer
  split
  · exact ⟨h, hR⟩
  split
  · exact ⟨h, hR⟩
  split
  · exact ⟨pgI_u h (by omega), pgR_u hR (by omega)⟩
  exact ⟨pgI_ho (pgI_u h (by omega)), pgR_u (pgR_u (pgR_u (pgR_u hR (by omega)) (by omega)) (by omega)) (by omega)⟩
theorem kp_pack (h : pgI n σ) (hR : pgRho σ ρ) : pgI n (sp_pack σ d c).2.2 ∧ pgRho (sp_pack σ d c).2.2 ρ := by
  unfold sp_pack
  split
  · exact ⟨h, hR⟩
  rename_i hd
  split
  · exact ⟨h, hR⟩
  have h2 := (Classical.not_not.mp hd).2.at
  exact ⟨pgI_u h (Or.inr (Or.inr (Or.inr (Or.inr (Or.inr (Or.inr (Or.inr (Or.inr (Or.inr (Or.inl ⟨rfl, Or.inr ⟨_, h2⟩⟩)))))))))), pgR_u hR (by omega)⟩
theorem kp_unpack (h : pgI n σ) (hR : pgRho σ ρ) : pgI n (sp_unpack σ d).2.2 ∧ pgRho (sp_unpack σ d).2.2 ρ := by
  unfold sp_unpack
  split
  · exact ⟨h, hR⟩
  split
  · exact ⟨h, hR⟩
  exact ⟨pgI_u h (Or.inr (Or.inr (Or.inr (Or.inr (Or.inr (Or.inr (Or.inr (Or.inr (Or.inr (Or.inl ⟨rfl, Or.inl rfl⟩)))))))))), pgR_u hR (by omega)⟩
theorem kp_open (h : pgI n σ) (hR : pgRho σ ρ) : pgI n (sp_open σ c k).2.2 ∧ pgRho (sp_open σ c k).2.2 ρ := by
  unfold sp_open
  split
  · exact ⟨h, hR⟩
  split
  · exact ⟨h, hR⟩
  split
  · exact ⟨h, hR⟩
  have h1 : pgI n (pgU σ 11 (ix c) (-1)) := pgI_u h (Or.inr (Or.inr (Or.inr (Or.inr (Or.inr (Or.inr (Or.inr (Or.inr (Or.inr (Or.inr ⟨rfl, rfl⟩))))))))))
  have h2 : pgRho (pgU σ 11 (ix c) (-1)) ρ := pgR_u hR (Or.inr ⟨rfl, rfl⟩)
  dsimp only
  split
  · exact ⟨h1, h2⟩
  · exact ⟨pgI_u h1 (by omega), pgR_u h2 (by omega)⟩
theorem kp_carry (h : pgI n σ) (hR : pgRho σ ρ) : pgI n (sp_carry σ c to).2.2 ∧ pgRho (sp_carry σ c to).2.2 ρ := by
  unfold sp_carry
  split
  · exact ⟨h, hR⟩
  split
  · exact ⟨h, hR⟩
  split
  · exact ⟨h, hR⟩
  refine ⟨pgI_hoN (pgI_u h (by omega)), pgR_t (pgR_u hR (t := 10) (i := ix c) (v := to) (by omega)) ?_ ?_⟩
  · funext j; simp [pgHoN]
  · funext j; simp [pgHoN]
theorem kp_wipe (h : pgI n σ) (hR : pgRho σ ρ) : pgI n (sp_wipe σ d way w).2.2 ∧ pgRho (sp_wipe σ d way w).2.2 ρ := by
  unfold sp_wipe
  split
  · exact ⟨h, hR⟩
  rename_i hd
  have h2 := ((Classical.not_not.mp hd).1.at h).1
  split
  · exact ⟨h, hR⟩
  split
  · exact ⟨h, hR⟩
  split
  · exact ⟨pgI_u (pgI_u (pgI_u h (by omega)) (by omega)) (by omega), pgR_u (pgR_u (pgR_u hR (by omega)) (by omega)) (by omega)⟩
  · exact ⟨pgI_u (pgI_u (pgI_u h (by omega)) (by omega)) (by omega), pgR_u (pgR_u (pgR_u hR (by omega)) (by omega)) (by omega)⟩
theorem kp_smash (h : pgI n σ) (hR : pgRho σ ρ) : pgI n (sp_smash σ d w).2.2 ∧ pgRho (sp_smash σ d w).2.2 ρ := by
  unfold sp_smash
  split
  · exact ⟨h, hR⟩
  rename_i hd
  have h2 := ((Classical.not_not.mp hd).1.at h).1
  split
  · exact ⟨h, hR⟩
  split
  · exact ⟨h, hR⟩
  exact ⟨pgI_u h (by omega), pgR_u hR (by omega)⟩
theorem kp_check (h : pgI n σ) (hR : pgRho σ ρ) : pgI n (sp_check σ d w g).2.2 ∧ pgRho (sp_check σ d w g).2.2 ρ := by
  unfold sp_check
  split
  · exact ⟨h, hR⟩
  rename_i hd
  have h2 := ((Classical.not_not.mp hd).1.at h).1
  split
  · exact ⟨h, hR⟩
  split
  · exact ⟨h, hR⟩
  split
  · exact ⟨pgI_u (pgI_u h (by omega)) (by omega), pgR_u (pgR_u hR (by omega)) (by omega)⟩
  · exact ⟨pgI_u (pgI_u h (by omega)) (by omega), pgR_u (pgR_u hR (by omega)) (by omega)⟩
theorem kp_lose (h : pgI n σ) (hR : pgRho σ ρ) : pgI n (sp_lose σ d).2.2 ∧ pgRho (sp_lose σ d).2.2 ρ := by
  unfold sp_lose
  split
  · exact ⟨h, hR⟩
  rename_i hd
  have h2 := ((Classical.not_not.mp hd).at h).1
  split
  · exact ⟨h, hR⟩
  exact ⟨pgI_u (pgI_u h (by omega)) (by omega), pgR_u (pgR_u hR (by omega)) (by omega)⟩
theorem kp_find (h : pgI n σ) (hR : pgRho σ ρ) : pgI n (sp_find σ d).2.2 ∧ pgRho (sp_find σ d).2.2 ρ := by
  unfold sp_find
  split
  · exact ⟨h, hR⟩
  rename_i hd
  have h2 := ((Classical.not_not.mp hd).at h).1
  split
  · exact ⟨h, hR⟩
  exact ⟨pgI_u h (by omega), pgR_u hR (by omega)⟩
theorem kp_certify (h : pgI n σ) (hR : pgRho σ ρ) : pgI n (sp_certify σ k).2.2 ∧ pgRho (sp_certify σ k).2.2 ρ := by
  unfold sp_certify
  split
  · exact ⟨h, hR⟩
  split
  · exact ⟨h, hR⟩
  refine ⟨pgI_u (pgI_ce h) (by omega), pgR_u (pgR_t hR ?_ ?_) (by omega)⟩
  · funext j; simp [pgCe]
  · funext j; simp [pgCe]
theorem kp_seal (h : pgI n σ) (hR : pgRho σ ρ) : pgI n (sp_seal σ c).2.2 ∧ pgRho (sp_seal σ c).2.2 (if (sp_seal σ c).1 = 0 then upd ρ (ix (σ 13 1)) (pgCnt σ (ix (σ 13 0)) c) else ρ) := by
  unfold sp_seal
  split
  · exact ⟨h, hR⟩
  rename_i hd
  obtain ⟨hc9, -⟩ := (Classical.not_not.mp hd).at
  split
  · exact ⟨h, hR⟩
  rename_i hs
  obtain ⟨h1, h2, h3, ⟨K, k1, k2, k3⟩, h5, h6⟩ := h
  have hK : K < 100 := by
    by_cases z : K < 100
    · exact z
    · refine absurd ?_ (fun z2 => hs (Or.inr z2))
      have : K = 100 := by omega
      rw [k2, this]
      decide
  have hix : ix (σ 13 1) = K := by
    rw [k2]
    exact nI_clamp (by omega)
  generalize hv : pgCnt σ (ix (σ 13 0)) c = v
  refine ⟨⟨h1, ?_, fun j hj => ?_, ⟨K + 1, by omega, ?_, fun c2 hc2 => ?_⟩, fun j hj => ?_, fun j hj => ?_⟩, ?_⟩
  · rw [← h2]
    simp [pgU]
  · have := h3 j hj
    simpa [pgU] using this
  · simp only [pgU]
    rw [k2]
    simp [nI_1]
  · have := k3 c2 hc2
    simp only [pgU]
    by_cases z : c2 = ix c
    · refine Or.inr ⟨K, by omega, ?_⟩
      simp [z, k2]
    · rcases this with h9 | ⟨k9, h9, h10⟩
      · exact Or.inl (by simp [z, h9])
      · exact Or.inr ⟨k9, by omega, by simp [z, h10]⟩
  · have := h5 j hj
    simpa [pgU] using this
  · have := h6 j hj
    simpa [pgU] using this
  · rw [if_pos rfl, hix]
    intro c2 k9 hc2 hk9 h9
    have := k3 c2 hc2
    simp only [pgU] at h9 ⊢
    by_cases z : c2 = ix c
    · have e : nI K = nI k9 := by simpa [z, k2] using h9
      have e2 : K = k9 := (nI_eq (by omega) (by omega)).mp e
      simp [z, upd, e2]
    · have e : σ 11 c2 = nI k9 := by simpa [z] using h9
      have e3 : k9 ≠ K := by
        intro e4
        subst e4
        rcases this with h10 | ⟨k10, h10, h11⟩
        · exact pg_nm2 (by omega) (e.symm.trans h10)
        · have := (nI_eq (by omega) (by omega)).mp (h11.symm.trans e)
          omega
      have := hR c2 k9 hc2 hk9 e
      simpa [z, upd, e3] using this
theorem kp_bring (h : pgI n σ) (hR : pgRho σ ρ) : pgI (if (sp_bring σ kind secr keeper).1 = 0 then n + 1 else n) (sp_bring σ kind secr keeper).2.2 ∧ pgRho (sp_bring σ kind secr keeper).2.2 ρ := by
  by_cases c1 : pgIsK keeper
  case neg =>
    rw [show sp_bring σ kind secr keeper = (1, 0, σ) from if_pos c1]
    exact ⟨h, hR⟩
  by_cases c2 : 0 ≤ kind ∧ kind < 3 ∧ 0 ≤ secr ∧ secr < 4
  case neg =>
    rw [show sp_bring σ kind secr keeper = (2, 0, σ) from (if_neg (fun z => z c1)).trans (if_pos c2)]
    exact ⟨h, hR⟩
  by_cases hs : σ 13 0 < 60
  case neg =>
    rw [show sp_bring σ kind secr keeper = (3, 0, σ) from (if_neg (fun z => z c1)).trans ((if_neg (fun z => z c2)).trans (if_pos hs))]
    exact ⟨h, hR⟩
  rw [show sp_bring σ kind secr keeper = _ from (if_neg (fun z => z c1)).trans ((if_neg (fun z => z c2)).trans (if_neg (fun z => z hs)))]
  obtain ⟨h1, h2, h3, ⟨K, k1, k2, k3⟩, h5, h6⟩ := h
  have hn : n < 60 := by
    by_cases z : n < 60
    · exact z
    · refine absurd hs ?_
      have : n = 60 := by omega
      rw [h2, this]
      decide
  have hix : ix (σ 13 0) = n := by
    rw [h2]
    exact nI_clamp (by omega)
  rw [if_pos rfl, hix]
  refine ⟨⟨by omega, ?_, fun j hj => ?_, ⟨K, k1, ?_, fun c hc => ?_⟩, fun j hj => ?_, fun j hj => ?_⟩, ?_⟩
  · simp [h2, nI_1]
  · have := h3 j
    dsimp only
    grind (splits := 40)
  · simp [k2]
  · have := k3 c hc
    dsimp only
    grind (splits := 40)
  · have := h5 j (by omega)
    dsimp only
    grind (splits := 40)
  · have := h6 j
    dsimp only
    grind (splits := 40)
  · refine pgR_t hR ?_ ?_
    · funext j; simp
    · funext j; simp
end PGP
