/-! the reference's world: its object at md 0, its thirteen arrays at md 1 .. md 13 -/
abbrev pgMv (md : Nat → Nat) (σ : pgSt) (th : Int32) : List Value := [.int (σ 13 0), .ref (md 1), .ref (md 2), .ref (md 3), .ref (md 4), .ref (md 5), .ref (md 6), .ref (md 7), .ref (md 8), .ref (md 9), .ref (md 10), .ref (md 11), .ref (md 12), .ref (md 13), .int (σ 13 1), .int (σ 13 2), .int (σ 13 3), .int (σ 13 4), .int th]
/-- the k-th array: its class, length, contents -/
def pgMa (cI cZ : ClassId) (σ : pgSt) (ρ : Nat → Int32) (k : Nat) : ClassId × vp_A :=
  (if k = 6 ∨ k = 9 then cZ else cI, if k ≤ 10 then 60 else if k ≤ 12 then 10 else 100, .inl (if k = 13 then ρ else σ (k - 1)))
def pgMo (cI cZ : ClassId) (σ : pgSt) (ρ : Nat → Int32) (th : Int32) (md : Nat → Nat) (k : Nat) : va_E :=
  if k = 0 then .inr (3, pgMv md σ th) else .inl (pgMa cI cZ σ ρ k)
def pgM (D : va_G) (cI cZ : ClassId) (A : Nat → Prop) (σ : pgSt) (ρ : Nat → Int32) (th : Int32) (md : Nat → Nat) (H : Heap) : Prop :=
  (∀ k, k < 14 → va_at D vwCl (md k, pgMo cI cZ σ ρ th md k) H) ∧ (∀ a b, a < 14 → b < 14 → md a = md b → a = b) ∧ (∀ k, k < 14 → A (md k))
/-- two states that the reference can't tell apart -/
def pgSim (σ σ2 : pgSt) : Prop := (∀ t, t < 12 → σ t = σ2 t) ∧ ∀ j, j < 5 → σ 13 j = σ2 13 j
theorem pgSim.of {σ σ2 : pgSt} (h : ∀ t j, t < 12 ∨ t = 13 → σ t j = σ2 t j) : pgSim σ σ2 := ⟨fun t ht => funext fun j => h t j (Or.inl ht), fun j _ => h 13 j (Or.inr rfl)⟩
theorem pgU_tab {σ : pgSt} {t i a : Nat} {v : Int32} (h : a ≠ t) : pgU σ t i v a = σ a := funext fun j => pgU_ne h
theorem pgU_upd {σ : pgSt} {t i : Nat} {v : Int32} : pgU σ t i v t = upd (σ t) i v := by
  funext j
  simp [pgU, upd]
section PGM
variable {D : va_G} {cI cZ : ClassId} {A : Nat → Prop} {σ σ2 : pgSt} {ρ : Nat → Int32} {th : Int32} {md : Nat → Nat} {H H1 : Heap}
theorem pgM.m (h : pgM D cI cZ A σ ρ th md H) : va_at D vwCl (md 0, .inr (3, pgMv md σ th)) H := h.1 0 (by omega)
theorem pgM.a1 (h : pgM D cI cZ A σ ρ th md H) : va_at D vwCl (md 1, .inl (cI, 60, .inl (σ 0))) H := h.1 1 (by omega)
theorem pgM.a2 (h : pgM D cI cZ A σ ρ th md H) : va_at D vwCl (md 2, .inl (cI, 60, .inl (σ 1))) H := h.1 2 (by omega)
theorem pgM.a3 (h : pgM D cI cZ A σ ρ th md H) : va_at D vwCl (md 3, .inl (cI, 60, .inl (σ 2))) H := h.1 3 (by omega)
theorem pgM.a4 (h : pgM D cI cZ A σ ρ th md H) : va_at D vwCl (md 4, .inl (cI, 60, .inl (σ 3))) H := h.1 4 (by omega)
theorem pgM.a5 (h : pgM D cI cZ A σ ρ th md H) : va_at D vwCl (md 5, .inl (cI, 60, .inl (σ 4))) H := h.1 5 (by omega)
theorem pgM.a6 (h : pgM D cI cZ A σ ρ th md H) : va_at D vwCl (md 6, .inl (cZ, 60, .inl (σ 5))) H := h.1 6 (by omega)
theorem pgM.a7 (h : pgM D cI cZ A σ ρ th md H) : va_at D vwCl (md 7, .inl (cI, 60, .inl (σ 6))) H := h.1 7 (by omega)
theorem pgM.a8 (h : pgM D cI cZ A σ ρ th md H) : va_at D vwCl (md 8, .inl (cI, 60, .inl (σ 7))) H := h.1 8 (by omega)
theorem pgM.a9 (h : pgM D cI cZ A σ ρ th md H) : va_at D vwCl (md 9, .inl (cZ, 60, .inl (σ 8))) H := h.1 9 (by omega)
theorem pgM.a10 (h : pgM D cI cZ A σ ρ th md H) : va_at D vwCl (md 10, .inl (cI, 60, .inl (σ 9))) H := h.1 10 (by omega)
theorem pgM.a11 (h : pgM D cI cZ A σ ρ th md H) : va_at D vwCl (md 11, .inl (cI, 10, .inl (σ 10))) H := h.1 11 (by omega)
theorem pgM.a12 (h : pgM D cI cZ A σ ρ th md H) : va_at D vwCl (md 12, .inl (cI, 10, .inl (σ 11))) H := h.1 12 (by omega)
theorem pgM.a13 (h : pgM D cI cZ A σ ρ th md H) : va_at D vwCl (md 13, .inl (cI, 100, .inl ρ)) H := h.1 13 (by omega)
theorem pgM.inA (h : pgM D cI cZ A σ ρ th md H) : ∀ k, k < 14 → A (md k) := h.2.2
theorem pgM.lt (h : pgM D cI cZ A σ ρ th md H) {k : Nat} (hk : k < 14) : md k < H.size := (h.1 k hk).lt
theorem pgM.kept (h : pgM D cI cZ A σ ρ th md H) (hq : ∀ k, k < 14 → H1[md k]? = H[md k]?) : pgM D cI cZ A σ ρ th md H1 := ⟨fun k hk => (h.1 k hk).kept (hq k hk), h.2⟩
theorem pgM.sim (h : pgM D cI cZ A σ ρ th md H) (e : pgSim σ σ2) : pgM D cI cZ A σ2 ρ th md H := by
  refine ⟨fun k hk => ?_, h.2⟩
  have e1 : pgMo cI cZ σ2 ρ th md k = pgMo cI cZ σ ρ th md k := by
    unfold pgMo
    by_cases h0 : k = 0
    · simp only [if_pos h0, pgMv, e.2 0 (by omega), e.2 1 (by omega), e.2 2 (by omega), e.2 3 (by omega), e.2 4 (by omega)]
    · simp only [if_neg h0, pgMa]
      by_cases h13 : k = 13
      · simp only [if_pos h13]
      · simp only [if_neg h13, e.1 (k - 1) (by omega)]
  rw [e1]
  exact h.1 k hk
theorem pgM.eq (h : pgM D cI cZ A σ ρ th md H) (e : σ = σ2) : pgM D cI cZ A σ2 ρ th md H := e ▸ h
/-- a number of the object's own -/
theorem pgM.putN (h : pgM D cI cZ A σ ρ th md H) {t : Nat} {v : Int32} {w : List Value} (hw : w = pgMv md (pgU σ 13 t v) th) (hc : va_at D vwCl (md 0, .inr (3, w)) H1) (ho : ∀ q : Nat, q ≠ md 0 → H1[q]? = H[q]?) : pgM D cI cZ A (pgU σ 13 t v) ρ th md H1 := by
  subst hw
  refine ⟨fun k hk => ?_, h.2⟩
  by_cases h0 : k = 0
  · subst h0; exact hc
  · have e : pgMo cI cZ (pgU σ 13 t v) ρ th md k = pgMo cI cZ σ ρ th md k := by
      unfold pgMo
      simp only [if_neg h0, pgMa]
      rw [pgU_tab (show k - 1 ≠ 13 by omega)]
    rw [e]
    exact (h.1 k hk).kept (ho _ (fun z => h0 (h.2.1 k 0 hk (by omega) z)))
theorem pgM.putT (h : pgM D cI cZ A σ ρ th md H) {v : Int32} {w : List Value} (hw : w = pgMv md σ v) (hc : va_at D vwCl (md 0, .inr (3, w)) H1) (ho : ∀ q : Nat, q ≠ md 0 → H1[q]? = H[q]?) : pgM D cI cZ A σ ρ v md H1 := by
  subst hw
  refine ⟨fun k hk => ?_, h.2⟩
  by_cases h0 : k = 0
  · subst h0; exact hc
  · have e : pgMo cI cZ σ ρ v md k = pgMo cI cZ σ ρ th md k := by
      unfold pgMo
      simp only [if_neg h0]
    rw [e]
    exact (h.1 k hk).kept (ho _ (fun z => h0 (h.2.1 k 0 hk (by omega) z)))
/-- a place of the array of table t -/
theorem pgM.putA (h : pgM D cI cZ A σ ρ th md H) {t i : Nat} {v : Int32} {x : ClassId × vp_A} (ht : t < 12) (hx : x = pgMa cI cZ (pgU σ t i v) ρ (t + 1)) (hc : va_at D vwCl (md (t + 1), .inl x) H1) (ho : ∀ q : Nat, q ≠ md (t + 1) → H1[q]? = H[q]?) : pgM D cI cZ A (pgU σ t i v) ρ th md H1 := by
  subst hx
  refine ⟨fun k hk => ?_, h.2⟩
  by_cases h0 : k = t + 1
  · subst h0
    have e : pgMo cI cZ (pgU σ t i v) ρ th md (t + 1) = .inl (pgMa cI cZ (pgU σ t i v) ρ (t + 1)) := by
      unfold pgMo
      rw [if_neg (by omega)]
    rw [e]
    exact hc
  · have e : pgMo cI cZ (pgU σ t i v) ρ th md k = pgMo cI cZ σ ρ th md k := by
      unfold pgMo
      by_cases hz : k = 0
      · simp only [if_pos hz, pgMv, pgU_ne (show (13 : Nat) ≠ t by omega)]
      · simp only [if_neg hz, pgMa]
        rw [pgU_tab (show k - 1 ≠ t by omega)]
    rw [e]
    exact (h.1 k hk).kept (ho _ (fun z => h0 (h.2.1 k (t + 1) hk (by omega) z)))
theorem pgM.putR (h : pgM D cI cZ A σ ρ th md H) {i : Nat} {v : Int32} (hc : va_at D vwCl (md 13, .inl (cI, 100, .inl (upd ρ i v))) H1) (ho : ∀ q : Nat, q ≠ md 13 → H1[q]? = H[q]?) : pgM D cI cZ A σ (upd ρ i v) th md H1 := by
  refine ⟨fun k hk => ?_, h.2⟩
  by_cases h0 : k = 13
  · subst h0
    exact hc
  · have e : pgMo cI cZ σ (upd ρ i v) th md k = pgMo cI cZ σ ρ th md k := by
      unfold pgMo
      by_cases hz : k = 0
      · simp only [if_pos hz]
      · simp only [if_neg hz, pgMa, if_neg h0]
    rw [e]
    exact (h.1 k hk).kept (ho _ (fun z => h0 (h.2.1 k 13 hk (by omega) z)))
variable {i : Nat} {v : Int32}
theorem pgMs0 : (pgMv md σ th).set 0 (.int v) = pgMv md (pgU σ 13 0 v) th := by simp [pgU]
theorem pgMs14 : (pgMv md σ th).set 14 (.int v) = pgMv md (pgU σ 13 1 v) th := by simp [pgU]
theorem pgMs15 : (pgMv md σ th).set 15 (.int v) = pgMv md (pgU σ 13 2 v) th := by simp [pgU]
theorem pgMs16 : (pgMv md σ th).set 16 (.int v) = pgMv md (pgU σ 13 3 v) th := by simp [pgU]
theorem pgMs17 : (pgMv md σ th).set 17 (.int v) = pgMv md (pgU σ 13 4 v) th := by simp [pgU]
theorem pgMs18 : (pgMv md σ th).set 18 (.int v) = pgMv md σ v := by simp
theorem pgMx {t N : Nat} {cA : ClassId} (h1 : (if t + 1 = 6 ∨ t + 1 = 9 then cZ else cI) = cA) (h2 : (if t + 1 ≤ 10 then 60 else if t + 1 ≤ 12 then 10 else 100) = N) (ht : t < 12) : (cA, N, (.inl (upd (σ t) i v) : (Nat → Int32) ⊕ _)) = pgMa cI cZ (pgU σ t i v) ρ (t + 1) := by
  unfold pgMa
  rw [h1, h2, if_neg (by omega)]
  congr 3
  exact pgU_upd.symm
end PGM
theorem pg_narZ {x : Int32} (h : x = 0 ∨ x = 1) : vp_nar .boolean x = x := by rcases h with rfl | rfl <;> rfl
/-- the reference's own memory of the seals -/
def pgRho (σ : pgSt) (ρ : Nat → Int32) : Prop := ∀ c k, c < 10 → k < 100 → σ 11 c = nI k → ρ k = σ 12 c
theorem pg_inD {n : Nat} {σ : pgSt} {d : Int32} (hI : pgI n σ) (h : pgIsD σ d) : vp_in d 60 := by
  obtain ⟨h1, h2⟩ := h.at hI
  rw [h2]
  exact vp_in_nI (by have := hI.1; omega) (by omega)
theorem pg_inC {d : Int32} (h : pgIsC d) : vp_in d 10 := by
  obtain ⟨h1, h2⟩ := h.at
  rw [h2]
  exact vp_in_nI h1 (by omega)
theorem pg_inCr {n j : Nat} {σ : pgSt} (hI : pgI n σ) (hj : j < n) (h : ¬ σ 3 j = -1) : vp_in (σ 3 j) 10 := by
  rcases hI.2.2.1 j hj with z | ⟨c, hc, z⟩
  · exact absurd z h
  · rw [z]
    exact vp_in_nI hc (by omega)
theorem pg_inS {n c : Nat} {σ : pgSt} (hI : pgI n σ) (hc : c < 10) (h : ¬ σ 11 c = -1) : vp_in (σ 11 c) 100 ∧ ∃ k, k < 100 ∧ σ 11 c = nI k := by
  obtain ⟨K, hK, -, h3⟩ := hI.2.2.2.1
  rcases h3 c hc with z | ⟨k, hk, z⟩
  · exact absurd z h
  · rw [z]
    exact ⟨vp_in_nI (by omega) (by omega), k, by omega, rfl⟩
theorem pg_isD {n : Nat} {σ : pgSt} {d : Int32} (hI : pgI n σ) : (0 ≤ d ∧ d ≤ σ 13 0 - 1) ↔ pgIsD σ d := by
  have hn := hI.1
  rw [pgIsD, hI.2.1]
  rcases Nat.eq_zero_or_pos n with z | z
  · subst z
    constructor
    · intro h
      have h2 : (0 : Int32) ≤ nI 0 - 1 := Int32.le_trans h.1 h.2
      exact absurd h2 (by decide)
    · intro h
      have h2 : d < 0 := h.2
      exact absurd (Int32.lt_of_lt_of_le h2 h.1) Int32.lt_irrefl
  · obtain ⟨m, rfl⟩ : ∃ m, n = m + 1 := ⟨n - 1, by omega⟩
    rw [nI_pred]
    constructor
    · intro h
      exact ⟨h.1, Int32.lt_of_le_of_lt h.2 (nI_lt (by omega) (by omega))⟩
    · intro h
      obtain ⟨h1, h2⟩ := pg_ofN (N := m + 1) (by omega) h
      refine ⟨h.1, ?_⟩
      rw [h2]
      exact nI_le (by omega) (by omega)
/-- where the law's own codes differ from ours: two exceptions alone -/
def pgKB (k : Nat) : Int32 := if k = 0 then 0 else if k = 1 then 1 else 2
