/-- a state: table by table, place by place. 0 kind, 1 secrecy, 2 keeper, 3 crate, 4 state, 5 missing, 6 offered, 7 doer, 8 found good, 9 certificate, 10 crate's keeper, 11 seal, 12 remembered, 13 numbers (0 disks, 1 seals, 2 odd, 3 entries, 4 certificates), 14 keeper by the log -/
abbrev pgSt : Type := Nat → Nat → Int32
def pgU (σ : pgSt) (t i : Nat) (v : Int32) : pgSt := fun a j => if a = t ∧ j = i then v else σ a j
abbrev ix (d : Int32) : Nat := d.toNatClampNeg
def pgCv (ad : Nat → Nat) (v : Int32) : Value := if v = -1 then .null else .ref (ad (3 + ix v))
abbrev pgDv (ad : Nat → Nat) (σ : pgSt) (j : Nat) : List Value := [.int (σ 0 j), .int (σ 1 j), .int (σ 2 j), .int (σ 14 j), pgCv ad (σ 3 j), .int (σ 6 j), .int (σ 4 j), .int (σ 7 j), .int (σ 8 j), .int (σ 5 j), .int (σ 9 j)]
abbrev pgKv (σ : pgSt) (c : Nat) : List Value := [.int (nI c), .int (σ 10 c), .int (σ 11 c), .int (σ 12 c)]
abbrev pgXv (ad : Nat → Nat) (σ : pgSt) : List Value := [.ref (ad 1), .ref (ad 2), .int (σ 13 0), .int (σ 13 1), .int (σ 13 2), .int (σ 13 3), .int (σ 13 4)]
abbrev pgBd (n : Nat) (ad : Nat → Nat) : Nat → Option Nat := fun i => if i < n then some (ad (13 + i)) else none
/-- what the class's k-th cell holds: the object, its two arrays, ten crates, the disks -/
def pgO (cD cC : ClassId) (σ : pgSt) (n : Nat) (ad : Nat → Nat) (k : Nat) : va_E :=
  if k = 0 then .inr (2, pgXv ad σ) else if k = 1 then .inl (cD, 60, .inr (.inr (.inr (.inr (pgBd n ad))))) else if k = 2 then .inl (cC, 10, .inr (.inr (.inr (.inr (fun i => some (ad (3 + i))))))) else if k < 13 then .inr (0, pgKv σ (k - 3)) else .inr (1, pgDv ad σ (k - 13))
/-- the class's world -/
def pgR (D : va_G) (cD cC : ClassId) (A : Nat → Prop) (σ : pgSt) (n : Nat) (ad : Nat → Nat) (H : Heap) : Prop :=
  (∀ k, k < 13 + n → va_at D vwCl (ad k, pgO cD cC σ n ad k) H) ∧ (∀ a b, a < 13 + n → b < 13 + n → ad a = ad b → a = b) ∧ (∀ k, k < 13 + n → A (ad k))
section PGR
variable {D : va_G} {cD cC : ClassId} {A : Nat → Prop} {σ σ2 : pgSt} {n : Nat} {ad : Nat → Nat} {H H1 : Heap}
theorem pgR.x (h : pgR D cD cC A σ n ad H) : va_at D vwCl (ad 0, .inr (2, pgXv ad σ)) H := h.1 0 (by omega)
theorem pgR.bd (h : pgR D cD cC A σ n ad H) : va_at D vwCl (ad 1, .inl (cD, 60, .inr (.inr (.inr (.inr (pgBd n ad)))))) H := h.1 1 (by omega)
theorem pgR.ac (h : pgR D cD cC A σ n ad H) : va_at D vwCl (ad 2, .inl (cC, 10, .inr (.inr (.inr (.inr (fun i => some (ad (3 + i)))))))) H := h.1 2 (by omega)
theorem pgO_cr {c : Nat} (hc : c < 10) : pgO cD cC σ n ad (3 + c) = .inr (0, pgKv σ c) := by
  unfold pgO
  rw [if_neg (by omega), if_neg (by omega), if_neg (by omega), if_pos (by omega), show 3 + c - 3 = c by omega]
theorem pgO_dk (j : Nat) : pgO cD cC σ n ad (13 + j) = .inr (1, pgDv ad σ j) := by
  unfold pgO
  rw [if_neg (by omega), if_neg (by omega), if_neg (by omega), if_neg (by omega), show 13 + j - 13 = j by omega]
theorem pgR.cr (h : pgR D cD cC A σ n ad H) {c : Nat} (hc : c < 10) : va_at D vwCl (ad (3 + c), .inr (0, pgKv σ c)) H := by
  rw [← pgO_cr (cD := cD) (cC := cC) (n := n) (ad := ad) hc]
  exact h.1 (3 + c) (by omega)
theorem pgR.dk (h : pgR D cD cC A σ n ad H) {j : Nat} (hj : j < n) : va_at D vwCl (ad (13 + j), .inr (1, pgDv ad σ j)) H := by
  rw [← pgO_dk (cD := cD) (cC := cC) (n := n) (ad := ad) j]
  exact h.1 (13 + j) (by omega)
theorem pgR.inA (h : pgR D cD cC A σ n ad H) : ∀ k, k < 13 + n → A (ad k) := h.2.2
theorem pgR.lt (h : pgR D cD cC A σ n ad H) {k : Nat} (hk : k < 13 + n) : ad k < H.size := (h.1 k hk).lt
theorem pgR.kept (h : pgR D cD cC A σ n ad H) (hq : ∀ k, k < 13 + n → H1[ad k]? = H[ad k]?) : pgR D cD cC A σ n ad H1 := ⟨fun k hk => (h.1 k hk).kept (hq k hk), h.2⟩
theorem pgR.more (h : pgR D cD cC A σ n ad H) (hq : ∀ q : Nat, q < H.size → H1[q]? = H[q]?) : pgR D cD cC A σ n ad H1 := h.kept fun k hk => hq _ (h.lt hk)
theorem pgR.eq (h : pgR D cD cC A σ n ad H) (e : σ = σ2) : pgR D cD cC A σ2 n ad H := e ▸ h
/-- one cell changes -/
theorem pgR.up (h : pgR D cD cC A σ n ad H) {k : Nat} (hk : k < 13 + n) (hc : va_at D vwCl (ad k, pgO cD cC σ2 n ad k) H1) (ho : ∀ q : Nat, q ≠ ad k → H1[q]? = H[q]?) (hs : ∀ a, a < 13 + n → a ≠ k → pgO cD cC σ2 n ad a = pgO cD cC σ n ad a) : pgR D cD cC A σ2 n ad H1 := by
  refine ⟨fun a ha => ?_, h.2⟩
  by_cases e : a = k
  · rw [e]; exact hc
  · rw [hs a ha e]
    exact (h.1 a ha).kept (ho _ (fun z => e (h.2.1 a k ha hk z)))
theorem pgU_ne {t i a j : Nat} {v : Int32} (h : a ≠ t) : pgU σ t i v a j = σ a j := by simp [pgU, h]
theorem pgU_nj {t i a j : Nat} {v : Int32} (h : j ≠ i) : pgU σ t i v a j = σ a j := by simp [pgU, h]
theorem pgU_self {t i : Nat} {v : Int32} : pgU σ t i v t i = v := by simp [pgU]
theorem pgXv_u {t i : Nat} {v : Int32} (h : (13 : Nat) ≠ t) : pgXv ad (pgU σ t i v) = pgXv ad σ := by simp only [pgXv, pgU_ne h]
theorem pgKv_u {t i a : Nat} {v : Int32} (h1 : (10 : Nat) ≠ t) (h2 : (11 : Nat) ≠ t) (h3 : (12 : Nat) ≠ t) : pgKv (pgU σ t i v) a = pgKv σ a := by simp only [pgKv, pgU_ne h1, pgU_ne h2, pgU_ne h3]
theorem pgKv_j {t i a : Nat} {v : Int32} (h : a ≠ i) : pgKv (pgU σ t i v) a = pgKv σ a := by simp only [pgKv, pgU_nj h]
theorem pgDv_u {t i a : Nat} {v : Int32} (g : ∀ u : Nat, u < 10 ∨ u = 14 → u ≠ t) : pgDv ad (pgU σ t i v) a = pgDv ad σ a := by simp only [pgDv, pgU_ne (g 0 (by omega)), pgU_ne (g 1 (by omega)), pgU_ne (g 2 (by omega)), pgU_ne (g 3 (by omega)), pgU_ne (g 4 (by omega)), pgU_ne (g 5 (by omega)), pgU_ne (g 6 (by omega)), pgU_ne (g 7 (by omega)), pgU_ne (g 8 (by omega)), pgU_ne (g 9 (by omega)), pgU_ne (g 14 (by omega))]
theorem pgDv_j {t i a : Nat} {v : Int32} (h : a ≠ i) : pgDv ad (pgU σ t i v) a = pgDv ad σ a := by simp only [pgDv, pgU_nj h]
theorem pgO_num {t : Nat} {v : Int32} (a : Nat) (ha : a ≠ 0) : pgO cD cC (pgU σ 13 t v) n ad a = pgO cD cC σ n ad a := by
  unfold pgO
  rw [if_neg ha, if_neg ha, pgKv_u (by omega) (by omega) (by omega), pgDv_u (by omega)]
/-- a number of the object's own: field 2 + t -/
theorem pgR.putX (h : pgR D cD cC A σ n ad H) {t : Nat} {v : Int32} {w : List Value} (hw : w = pgXv ad (pgU σ 13 t v)) (hc : va_at D vwCl (ad 0, .inr (2, w)) H1) (ho : ∀ q : Nat, q ≠ ad 0 → H1[q]? = H[q]?) : pgR D cD cC A (pgU σ 13 t v) n ad H1 := by
  subst hw
  exact h.up (k := 0) (by omega) hc ho (fun a _ ha => pgO_num a ha)
/-- a field of crate c -/
theorem pgR.putK (h : pgR D cD cC A σ n ad H) {t c : Nat} {v : Int32} {w : List Value} (hc9 : c < 10) (ht : t = 10 ∨ t = 11 ∨ t = 12) (hw : w = pgKv (pgU σ t c v) c) (hc : va_at D vwCl (ad (3 + c), .inr (0, w)) H1) (ho : ∀ q : Nat, q ≠ ad (3 + c) → H1[q]? = H[q]?) : pgR D cD cC A (pgU σ t c v) n ad H1 := by
  subst hw
  refine h.up (k := 3 + c) (by omega) (by rw [pgO_cr hc9]; exact hc) ho (fun a ha hn => ?_)
  unfold pgO
  have e13 : (13 : Nat) ≠ t := by omega
  by_cases h0 : a = 0
  · simp only [if_pos h0, pgXv_u e13]
  · by_cases h1 : a = 1
    · simp only [if_neg h0, if_pos h1]
    · by_cases h2 : a = 2
      · simp only [if_neg h0, if_neg h1, if_pos h2]
      · by_cases h3 : a < 13
        · have hj : a - 3 ≠ c := by omega
          simp only [if_neg h0, if_neg h1, if_neg h2, if_pos h3, pgKv_j hj]
        · have g : ∀ u : Nat, u < 10 ∨ u = 14 → u ≠ t := by omega
          simp only [if_neg h0, if_neg h1, if_neg h2, if_neg h3, pgDv_u g]
/-- a field of disk j -/
theorem pgR.putD (h : pgR D cD cC A σ n ad H) {t j : Nat} {v : Int32} {w : List Value} (hj : j < n) (ht : t < 10 ∨ t = 14) (hw : w = pgDv ad (pgU σ t j v) j) (hc : va_at D vwCl (ad (13 + j), .inr (1, w)) H1) (ho : ∀ q : Nat, q ≠ ad (13 + j) → H1[q]? = H[q]?) : pgR D cD cC A (pgU σ t j v) n ad H1 := by
  subst hw
  refine h.up (k := 13 + j) (by omega) (by rw [pgO_dk]; exact hc) ho (fun a ha hn => ?_)
  unfold pgO
  have e13 : (13 : Nat) ≠ t := by omega
  have e10 : (10 : Nat) ≠ t := by omega
  have e11 : (11 : Nat) ≠ t := by omega
  have e12 : (12 : Nat) ≠ t := by omega
  by_cases h0 : a = 0
  · simp only [if_pos h0, pgXv_u e13]
  · by_cases h1 : a = 1
    · simp only [if_neg h0, if_pos h1]
    · by_cases h2 : a = 2
      · simp only [if_neg h0, if_neg h1, if_pos h2]
      · by_cases h3 : a < 13
        · simp only [if_neg h0, if_neg h1, if_neg h2, if_pos h3, pgKv_u e10 e11 e12]
        · have hj2 : a - 13 ≠ j := by omega
          simp only [if_neg h0, if_neg h1, if_neg h2, if_neg h3, pgDv_j hj2]
end PGR
theorem pg_nm1 : ∀ c, c < 10 → nI c ≠ -1 := by decide
theorem pgCv_ref {ad : Nat → Nat} {v : Int32} {c : Nat} (hc : c < 10) (h : v = nI c) : pgCv ad v = .ref (ad (3 + c)) := by
  subst h
  unfold pgCv
  rw [if_neg (pg_nm1 c hc), show ix (nI c) = c from nI_clamp (by omega)]
theorem pgCv_null {ad : Nat → Nat} {v : Int32} (h : v = -1) : pgCv ad v = .null := by
  subst h
  rfl
/-- what holds of every state that is reached -/
def pgI (n : Nat) (σ : pgSt) : Prop :=
  n ≤ 60 ∧ σ 13 0 = nI n ∧ (∀ j, j < n → σ 3 j = -1 ∨ ∃ c, c < 10 ∧ σ 3 j = nI c) ∧ (∃ K, K ≤ 100 ∧ σ 13 1 = nI K ∧ ∀ c, c < 10 → σ 11 c = -1 ∨ ∃ k, k < K ∧ σ 11 c = nI k) ∧ (∀ j, n ≤ j → σ 4 j = 0 ∧ σ 5 j = 0 ∧ σ 8 j = 0) ∧ (∀ j, j < n → σ 14 j = σ 2 j)
abbrev pgIsD (σ : pgSt) (d : Int32) : Prop := 0 ≤ d ∧ d < σ 13 0
abbrev pgIsK (k : Int32) : Prop := 0 ≤ k ∧ k < 8
abbrev pgIsC (c : Int32) : Prop := 0 ≤ c ∧ c < 10
abbrev pgShut (σ : pgSt) (j : Nat) : Prop := σ 3 j ≠ -1 ∧ σ 11 (ix (σ 3 j)) ≠ -1
abbrev pgLoose (σ : pgSt) (j : Nat) : Prop := σ 5 j = 0 ∧ σ 6 j = -1 ∧ σ 3 j = -1
abbrev pgReach (σ : pgSt) (j : Nat) : Prop := σ 5 j = 0 ∧ σ 6 j = -1 ∧ ¬ pgShut σ j
abbrev pgFin (σ : pgSt) (j : Nat) : Prop := σ 4 j = 3 ∨ (σ 4 j = 1 ∧ σ 8 j ≠ 0)
abbrev pgAw (σ : pgSt) (j : Nat) : Prop := pgFin σ j ∧ σ 5 j = 0 ∧ σ 9 j = -1
theorem pg_ofN {d : Int32} {N : Nat} (hN : N < 2 ^ 31) (h : 0 ≤ d ∧ d < nI N) : ix d < N ∧ d = nI (ix d) := by
  obtain ⟨j, hj, rfl⟩ := nI_of (x := d) (by
    intro h2
    exact Int32.lt_irrefl (Int32.lt_of_lt_of_le h2 h.1))
  have e : ix (nI j) = j := nI_clamp hj
  rw [e]
  exact ⟨(nI_ltI hj hN).mp h.2, rfl⟩
theorem pgIsD.at {n : Nat} {σ : pgSt} {d : Int32} (hI : pgI n σ) (h : pgIsD σ d) : ix d < n ∧ d = nI (ix d) := pg_ofN (by have := hI.1; omega) ⟨h.1, by rw [← hI.2.1]; exact h.2⟩
theorem pgIsC.at {d : Int32} (h : pgIsC d) : ix d < 10 ∧ d = nI (ix d) := pg_ofN (by omega) ⟨h.1, h.2⟩
theorem pg_in0 {d : Int32} {N : Nat} (h0 : ¬ d < 0) (h : d < nI N) (hN : N < 2 ^ 31) : vp_in d N := by
  obtain ⟨h1, h2⟩ := pg_ofN hN ⟨by exact Int32.not_lt.mp h0, h⟩
  rw [h2]
  exact vp_in_nI h1 hN
/-- how many places below k have P -/
def pgN (P : Nat → Bool) : Nat → Nat
  | 0 => 0
  | k + 1 => pgN P k + (if P k = true then 1 else 0)
theorem pgN_le (P : Nat → Bool) : ∀ k, pgN P k ≤ k
  | 0 => Nat.le_refl 0
  | k + 1 => by
    have := pgN_le P k
    unfold pgN
    split <;> omega
theorem pgN_pad {P : Nat → Bool} {n : Nat} (h : ∀ j, n ≤ j → P j = false) : ∀ k, pgN P (n + k) = pgN P n
  | 0 => rfl
  | k + 1 => by
    show pgN P (n + k) + _ = _
    rw [pgN_pad h k, show P (n.add k) = false from h (n + k) (by omega)]
    rfl
theorem pgN_congr {P P2 : Nat → Bool} : ∀ {k : Nat}, (∀ j, j < k → P j = P2 j) → pgN P k = pgN P2 k
  | 0, _ => rfl
  | k + 1, h => by
    unfold pgN
    rw [pgN_congr (k := k) (fun j hj => h j (by omega)), h k (by omega)]
/-- how many disks are in crate c -/
abbrev pgCnt (σ : pgSt) (n : Nat) (c : Int32) : Int32 := nI (pgN (fun j => decide (σ 3 j = c)) n)
/-- disk j goes to a keeper, with an entry -/
abbrev pgHo (σ : pgSt) (j : Nat) (to : Int32) : pgSt := pgU (pgU (pgU σ 2 j to) 14 j to) 13 3 (σ 13 3 + 1)
/-- .. all disks of crate c below k -/
def pgHoN (σ : pgSt) (c to : Int32) (k : Nat) : pgSt := fun t j => if (t = 2 ∨ t = 14) ∧ j < k ∧ σ 3 j = c then to else if t = 13 ∧ j = 3 then σ 13 3 + pgCnt σ k c else σ t j
abbrev pgRes : Type := Nat × Int32 × pgSt
def sp_bring (σ : pgSt) (kind secr keeper : Int32) : pgRes :=
  if ¬ pgIsK keeper then (1, 0, σ) else if ¬ (0 ≤ kind ∧ kind < 3 ∧ 0 ≤ secr ∧ secr < 4) then (2, 0, σ) else if ¬ σ 13 0 < 60 then (3, 0, σ) else
    (0, σ 13 0, fun t j => if t = 13 then (if j = 0 then σ 13 0 + 1 else if j = 3 then σ 13 3 + 1 else σ t j) else if j = ix (σ 13 0) then (if t = 0 then kind else if t = 1 then secr else if t = 2 then keeper else if t = 14 then keeper else if t = 3 then -1 else if t = 6 then -1 else if t = 7 then -1 else if t = 9 then -1 else σ t j) else σ t j)
def sp_offer (σ : pgSt) (d to : Int32) : pgRes :=
  if ¬ (pgIsD σ d ∧ pgIsK to) then (1, 0, σ) else if to = σ 2 (ix d) then (2, 0, σ) else if ¬ pgLoose σ (ix d) then (3, 0, σ) else (0, σ 2 (ix d), pgU σ 6 (ix d) to)
def sp_answer (σ : pgSt) (d t : Int32) : pgRes :=
  if ¬ pgIsD σ d then (1, 0, σ) else if σ 5 (ix d) ≠ 0 ∨ σ 6 (ix d) = -1 then (3, 0, σ) else if t = 0 then (0, σ 2 (ix d), pgU σ 6 (ix d) (-1)) else (0, σ 6 (ix d), pgHo (pgU σ 6 (ix d) (-1)) (ix d) (σ 6 (ix d)))
def sp_pack (σ : pgSt) (d c : Int32) : pgRes :=
  if ¬ (pgIsD σ d ∧ pgIsC c) then (1, 0, σ) else if ¬ (pgLoose σ (ix d) ∧ σ 11 (ix c) = -1 ∧ σ 10 (ix c) = σ 2 (ix d)) then (3, 0, σ) else (0, pgCnt (pgU σ 3 (ix d) c) (ix (σ 13 0)) c, pgU σ 3 (ix d) c)
def sp_unpack (σ : pgSt) (d : Int32) : pgRes :=
  if ¬ pgIsD σ d then (1, 0, σ) else if σ 5 (ix d) ≠ 0 ∨ σ 3 (ix d) = -1 ∨ σ 11 (ix (σ 3 (ix d))) ≠ -1 then (3, 0, σ) else (0, σ 3 (ix d), pgU σ 3 (ix d) (-1))
def sp_seal (σ : pgSt) (c : Int32) : pgRes :=
  if ¬ pgIsC c then (1, 0, σ) else if σ 11 (ix c) ≠ -1 ∨ ¬ σ 13 1 < 100 then (3, 0, σ) else (0, σ 13 1, pgU (pgU (pgU σ 11 (ix c) (σ 13 1)) 12 (ix c) (pgCnt σ (ix (σ 13 0)) c)) 13 1 (σ 13 1 + 1))
def sp_open (σ : pgSt) (c k : Int32) : pgRes :=
  if ¬ pgIsC c then (1, 0, σ) else if ¬ (0 ≤ k ∧ k ≤ 99) then (2, 0, σ) else if σ 11 (ix c) = -1 then (3, 0, σ) else (0, k - σ 12 (ix c), if k - σ 12 (ix c) = 0 then pgU σ 11 (ix c) (-1) else pgU (pgU σ 11 (ix c) (-1)) 13 2 (σ 13 2 + 1))
def sp_carry (σ : pgSt) (c to : Int32) : pgRes :=
  if ¬ (pgIsC c ∧ pgIsK to) then (1, 0, σ) else if to = σ 10 (ix c) then (2, 0, σ) else if σ 11 (ix c) = -1 ∧ 0 < pgCnt σ (ix (σ 13 0)) c then (3, 0, σ) else (0, σ 10 (ix c), pgHoN (pgU σ 10 (ix c) to) c to (ix (σ 13 0)))
def sp_wipe (σ : pgSt) (d way w : Int32) : pgRes :=
  if ¬ (pgIsD σ d ∧ pgIsK w) then (1, 0, σ) else if ¬ (0 ≤ way ∧ way < 3) ∨ w = σ 2 (ix d) then (2, 0, σ) else if ¬ pgReach σ (ix d) ∨ σ 4 (ix d) = 1 ∨ σ 4 (ix d) = 3 then (3, 0, σ) else if way = σ 0 (ix d) ∧ σ 1 (ix d) < 3 then (0, 1, pgU (pgU (pgU σ 4 (ix d) 1) 7 (ix d) (σ 2 (ix d))) 8 (ix d) 0) else (0, 2, pgU (pgU (pgU σ 4 (ix d) 2) 7 (ix d) (σ 2 (ix d))) 8 (ix d) 0)
def sp_smash (σ : pgSt) (d w : Int32) : pgRes :=
  if ¬ (pgIsD σ d ∧ pgIsK w) then (1, 0, σ) else if w = σ 2 (ix d) then (2, 0, σ) else if ¬ pgReach σ (ix d) ∨ σ 4 (ix d) = 3 then (3, 0, σ) else (0, σ 4 (ix d), pgU σ 4 (ix d) 3)
def sp_check (σ : pgSt) (d w g : Int32) : pgRes :=
  if ¬ (pgIsD σ d ∧ pgIsK w) then (1, 0, σ) else if σ 4 (ix d) = 1 ∧ w = σ 7 (ix d) then (2, 0, σ) else if ¬ pgReach σ (ix d) ∨ σ 4 (ix d) ≠ 1 then (3, 0, σ) else if g = 0 then (0, 2, pgU (pgU σ 8 (ix d) g) 4 (ix d) 2) else (0, 1, pgU (pgU σ 8 (ix d) g) 4 (ix d) 1)
def sp_lose (σ : pgSt) (d : Int32) : pgRes :=
  if ¬ pgIsD σ d then (1, 0, σ) else if σ 5 (ix d) ≠ 0 then (3, 0, σ) else (0, σ 2 (ix d), pgU (pgU σ 5 (ix d) 1) 6 (ix d) (-1))
def sp_find (σ : pgSt) (d : Int32) : pgRes :=
  if ¬ pgIsD σ d then (1, 0, σ) else if σ 5 (ix d) = 0 then (3, 0, σ) else (0, σ 3 (ix d), pgU σ 5 (ix d) 0)
/-- the disks of keeper k below i that wait for a certificate get number v -/
def pgCe (σ : pgSt) (k v : Int32) (i : Nat) : pgSt := fun t j => if t = 9 ∧ j < i ∧ σ 2 j = k ∧ pgAw σ j then v else σ t j
abbrev pgCeN (σ : pgSt) (k : Int32) (i : Nat) : Nat := pgN (fun j => decide (σ 2 j = k ∧ pgAw σ j)) i
def sp_certify (σ : pgSt) (k : Int32) : pgRes :=
  if ¬ pgIsK k then (1, 0, σ) else if pgCeN σ k (ix (σ 13 0)) = 0 then (4, 0, σ) else (0, nI (pgCeN σ k (ix (σ 13 0))), pgU (pgCe σ k (σ 13 4) (ix (σ 13 0))) 13 4 (σ 13 4 + 1))
def sp_askD (σ : pgSt) (d : Int32) (t : Nat) : pgRes := if ¬ pgIsD σ d then (1, 0, σ) else (0, σ t (ix d), σ)
def sp_askC (σ : pgSt) (c : Int32) (t : Nat) : pgRes := if ¬ pgIsC c then (1, 0, σ) else (0, σ t (ix c), σ)
def sp_isDone (σ : pgSt) (d : Int32) : pgRes := if ¬ pgIsD σ d then (1, 0, σ) else (0, if pgFin σ (ix d) then 1 else 0, σ)
def sp_has (σ : pgSt) (k : Int32) : pgRes := if ¬ pgIsK k then (1, 0, σ) else (0, nI (pgN (fun j => decide (σ 2 j = k)) (ix (σ 13 0))), σ)
abbrev pgMis (σ : pgSt) : Int32 := nI (pgN (fun j => decide (σ 5 j ≠ 0)) (ix (σ 13 0)))
/-- the arrays' classes -/
abbrev pgTys (cD cC cI cZ cL : ClassId) : List (ClassId × FieldType) := [(cD, .object RX1), (cC, .object RX0), (cI, .int), (cL, .long)]
