/-- what the law's 'disk' makes of a disk -/
def pvE (σ : pgSt) (k : Nat) : Int32 := σ 2 k + 8 * (σ 3 k + 1) + 88 * σ 4 k + 352 * (σ 6 k + 1) + 3168 * (if pgFin σ k then 1 else 0) + 6336 * (σ 9 k + 1)
/-- what holds of disk j -/
def pvD (σ φ : pgSt) (j : Nat) : Prop :=
  (∃ k, k < 8 ∧ σ 2 j = nI k) ∧ (σ 3 j = -1 ∨ (σ 10 (ix (σ 3 j)) = σ 2 j ∧ σ 6 j = -1)) ∧ (σ 6 j = -1 ∨ ((∃ k, k < 8 ∧ σ 6 j = nI k) ∧ σ 6 j ≠ σ 2 j ∧ σ 5 j = 0)) ∧ (σ 4 j = 0 ∨ σ 4 j = 1 ∨ σ 4 j = 2 ∨ σ 4 j = 3) ∧ (∃ a b, a < 3 ∧ b < 4 ∧ σ 0 j = nI a ∧ σ 1 j = nI b ∧ φ 2 j = nI (a + 4 * b)) ∧ φ 4 j = σ 7 j
/-- the law's book of what was told -/
def pvN (n : Nat) (σ φ : pgSt) : Prop := φ 0 0 = nI n ∧ φ 0 1 = σ 13 3 ∧ φ 0 2 = σ 13 4 ∧ φ 0 3 = σ 13 1 ∧ φ 0 4 = σ 13 2
def pvK (σ φ : pgSt) (c : Nat) : Prop := (∃ k, k < 8 ∧ σ 10 c = nI k) ∧ φ 3 c = σ 12 c ∧ (∃ k, k ≤ 60 ∧ σ 12 c = nI k)
def pvC (n : Nat) (σ : pgSt) (Bd : Nat) : Prop := ∃ C, C ≤ Bd ∧ σ 13 4 = nI C ∧ ∀ j, j < n → σ 9 j = -1 ∨ ∃ k, k < C ∧ σ 9 j = nI k
/-- what holds between the law's steps -/
def pvI (n : Nat) (σ φ : pgSt) (m : Int64) (Bd : Nat) : Prop :=
  pgI n σ ∧ pvN n σ φ ∧ (∀ j, j < n → pvD σ φ j) ∧ (∀ j, n ≤ j → j < 60 → φ 4 j = -1) ∧ (∀ c, c < 10 → pvK σ φ c) ∧ pvC n σ Bd ∧ (∀ j, j < 64 → (pvB m j ↔ σ 5 j ≠ 0))
/-- an exception as a number -/
def pvT (S : pgRes) : Int32 := if S.1 = 0 then S.2.1 else if S.1 = 2 then -9 else if S.1 = 3 then -8 else -10
theorem pvE_congr {σ σ2 : pgSt} {k : Nat} (h2 : σ2 2 k = σ 2 k) (h3 : σ2 3 k = σ 3 k) (h4 : σ2 4 k = σ 4 k) (h6 : σ2 6 k = σ 6 k) (h8 : σ2 8 k = σ 8 k) (h9 : σ2 9 k = σ 9 k) : pvE σ2 k = pvE σ k := by
  simp only [pvE, pgFin, h2, h3, h4, h6, h8, h9]
/-- the codes of the disks below i, kept -/
def pvFill (σ φ : pgSt) (i : Nat) : pgSt := fun t j => if t = 1 ∧ j < i then pvE σ j else φ t j
theorem pvFill_0 {σ φ : pgSt} : φ = pvFill σ φ 0 := by
  funext t j
  simp [pvFill]
theorem pvFill_s {σ φ : pgSt} {i : Nat} : pgU (pvFill σ φ i) 1 i (pvE σ i) = pvFill σ φ (i + 1) := by
  funext t j
  unfold pgU pvFill
  by_cases h1 : t = 1
  · by_cases h2 : j = i
    · subst h1; subst h2
      simp
    · have e : (j < i + 1) = (j < i) := by apply propext; omega
      simp [h1, h2, e]
  · simp [h1]
theorem pvFill_o {σ φ : pgSt} {i t j : Nat} (h : t ≠ 1) : pvFill σ φ i t j = φ t j := by simp [pvFill, h]
theorem pvFill_i {σ φ : pgSt} {i j : Nat} (h : j < i) : pvFill σ φ i 1 j = pvE σ j := by simp [pvFill, h]
section PVA
variable {n j : Nat} {σ : pgSt}
theorem pv_isD (hG : pgI n σ) (hj : j < n) : pgIsD σ (nI j) ∧ ix (nI j) = j := by
  have h1 := hG.1
  refine ⟨⟨nI_pos' (by omega), ?_⟩, nI_clamp (by omega)⟩
  rw [hG.2.1]
  exact nI_lt hj (by omega)
theorem pv_isC {c : Nat} (hc : c < 10) : pgIsC (nI c) ∧ ix (nI c) = c := ⟨⟨nI_pos' (by omega), nI_lt (b := 10) hc (by omega)⟩, nI_clamp (by omega)⟩
theorem pv_isK {k : Nat} (hk : k < 8) : pgIsK (nI k) := ⟨nI_pos' (by omega), nI_lt (b := 8) hk (by omega)⟩
theorem pv_askD (hG : pgI n σ) (hj : j < n) (t : Nat) : sp_askD σ (nI j) t = (0, σ t j, σ) := by
  obtain ⟨h1, h2⟩ := pv_isD hG hj
  unfold sp_askD
  rw [if_neg (fun z => z h1), h2]
theorem pv_askC {c : Nat} (hc : c < 10) (t : Nat) : sp_askC σ (nI c) t = (0, σ t c, σ) := by
  obtain ⟨h1, h2⟩ := pv_isC hc
  unfold sp_askC
  rw [if_neg (fun z => z h1), h2]
theorem pv_done (hG : pgI n σ) (hj : j < n) : ∃ r : Int32, sp_isDone σ (nI j) = (0, r, σ) ∧ (r = 1 ∧ pgFin σ j ∨ r = 0 ∧ ¬ pgFin σ j) := by
  obtain ⟨h1, h2⟩ := pv_isD hG hj
  unfold sp_isDone
  rw [if_neg (fun z => z h1), h2]
  by_cases h : pgFin σ j
  · exact ⟨1, by rw [if_pos h], Or.inl ⟨rfl, h⟩⟩
  · exact ⟨0, by rw [if_neg h], Or.inr ⟨rfl, h⟩⟩
theorem pv_has {k : Nat} (hG : pgI n σ) (hk : k < 8) : sp_has σ (nI k) = (0, nI (pgN (fun j => decide (σ 2 j = nI k)) n), σ) := by
  unfold sp_has
  rw [if_neg (fun z => z (pv_isK hk)), pgI_n hG]
theorem pv_mis (hG : pgI n σ) : pgMis σ = nI (pgN (fun j => decide (σ 5 j ≠ 0)) n) := by
  unfold pgMis
  rw [pgI_n hG]
/-- a place of crates: none, or one of ten -/
theorem pv_cr (hG : pgI n σ) (hj : j < n) : σ 3 j = -1 ∧ σ 3 j < 0 ∧ ¬ 0 ≤ σ 3 j ∨ ∃ c, c < 10 ∧ σ 3 j = nI c ∧ ix (σ 3 j) = c ∧ ¬ σ 3 j < 0 ∧ 0 ≤ σ 3 j ∧ σ 3 j ≠ -1 := by
  rcases hG.2.2.1 j hj with h | ⟨c, hc, h⟩
  · left; rw [h]; decide
  · right; exact ⟨c, hc, h, by rw [h]; exact nI_clamp (by omega), by rw [h]; exact nI_pos (by omega), by rw [h]; exact nI_pos' (by omega), by rw [h]; exact pv_nm1 (by omega)⟩
/-- a seal: none, or a number -/
theorem pv_se {c : Nat} (hG : pgI n σ) (hc : c < 10) : σ 11 c = -1 ∧ σ 11 c < 0 ∧ ¬ 0 ≤ σ 11 c ∨ σ 11 c ≠ -1 ∧ ¬ σ 11 c < 0 ∧ 0 ≤ σ 11 c := by
  obtain ⟨K, k1, k2, k3⟩ := hG.2.2.2.1
  rcases k3 c hc with h | ⟨k, hk, h⟩
  · left; rw [h]; decide
  · right; rw [h]; exact ⟨pv_nm1 (by omega), nI_pos (by omega), nI_pos' (by omega)⟩
end PVA
section PVX
variable {p : Program} {l : Launch} {e : Env} {R : Room} {s : State} {m : MethodId} {args : Array Value} {below : List Frame} {meth : Method} {c : Code} {own : String} {cc : ByteArray} {nL : Nat} {D : va_G} {tys : List (ClassId × FieldType)} {A : Nat → Prop} {Wd : Heap → Prop} {cells slots : Nat} {Q : State → Prop} {pc : Nat} {L L' : List (Nat × Value)} {st stk : List Value}
variable {cD cC cI cZ cL : ClassId} {σ φ : pgSt} {n : Nat} {ad ca : Nat → Nat} {f : Nat → Int64}
theorem pv_in {i : Int32} {j N : Nat} (hi : i = nI j) (hj : j < N) (hN : N ≤ 60) : vp_in i N ∧ i.toNatClampNeg = j := by
  subst hi
  exact ⟨vp_in_nI hj (by omega), nI_clamp (by omega)⟩
theorem pvLen_le (k : Nat) : pvLen k ≤ 60 := by unfold pvLen; split <;> (try split) <;> omega
theorem j_pld (B : pgB p m c s args meth own cc nL D (pgTys cD cC cI cZ cL) A) {k j : Nat} {i v : Int32} (hk : k < 5) (hi : i = nI j) (hj : j < pvLen k) (hv : φ k j = v) (hdg : decode cc pc = .ok (.iaload, 1)) (kk : pgJ p l e R s m args below meth c nL A (pvW D cD cC cI cL A σ n ad (φ) ca (f)) (cells) (slots) (Q) (pc + 1) (L) (.int v :: st)) : pgJ p l e R s m args below meth c nL A (pvW D cD cC cI cL A σ n ad (φ) ca (f)) (cells) (slots) (Q) (pc) (L) (.int i :: .ref (ca k) :: st) := by
  obtain ⟨h1, h2⟩ := pv_in hi hj (pvLen_le k)
  refine j_iald B (fun H h => h.2.1 k hk) 2 rfl h1 hdg ?_
  rw [h2, hv]
  exact kk
theorem j_pst (B : pgB p m c s args meth own cc nL D (pgTys cD cC cI cZ cL) A) {k j : Nat} {i x : Int32} (hk : k < 5) (hi : i = nI j) (hj : j < pvLen k) (hdg : decode cc pc = .ok (.iastore, 1)) (kk : pgJ p l e R s m args below meth c nL A (pvW D cD cC cI cL A σ n ad (pgU φ k j x) ca (f)) (cells) (slots) (Q) (pc + 1) (L) (st)) : pgJ p l e R s m args below meth c nL A (pvW D cD cC cI cL A σ n ad (φ) ca (f)) (cells) (slots) (Q) (pc) (L) (.int x :: .int i :: .ref (ca k) :: st) := by
  obtain ⟨h1, h2⟩ := pv_in hi hj (pvLen_le k)
  refine j_fact (fun H h => h.inA) (fun hin => ?_)
  exact j_iast B (Wd' := pvW D cD cC cI cL A σ n ad (pgU φ k j x) ca (f)) (fun H h => h.2.1 k hk) 2 rfl h1 hdg (hin k (by omega)) (fun H H1 h hc hz ho => h.put hk (by rw [h2] at hc; exact hc) ho) kk
theorem j_plL (B : pgB p m c s args meth own cc nL D (pgTys cD cC cI cZ cL) A) (hdg : decode cc pc = .ok (.laload, 1)) (kk : pgJ p l e R s m args below meth c nL A (pvW D cD cC cI cL A σ n ad (φ) ca (f)) (cells) (slots) (Q) (pc + 1) (L) (.long (f 0) :: st)) : pgJ p l e R s m args below meth c nL A (pvW D cD cC cI cL A σ n ad (φ) ca (f)) (cells) (slots) (Q) (pc) (L) (.int 0 :: .ref (ca 5) :: st) := j_lald B (fun H h => h.a5) 3 rfl pg_in01 hdg kk
theorem j_psL (B : pgB p m c s args meth own cc nL D (pgTys cD cC cI cZ cL) A) {x : Int64} (hdg : decode cc pc = .ok (.lastore, 1)) (kk : pgJ p l e R s m args below meth c nL A (pvW D cD cC cI cL A σ n ad (φ) ca (vp_updL f 0 x)) (cells) (slots) (Q) (pc + 1) (L) (st)) : pgJ p l e R s m args below meth c nL A (pvW D cD cC cI cL A σ n ad (φ) ca (f)) (cells) (slots) (Q) (pc) (L) (.long x :: .int 0 :: .ref (ca 5) :: st) := by
  refine j_fact (fun H h => h.inA) (fun hin => ?_)
  exact j_last B (Wd' := pvW D cD cC cI cL A σ n ad (φ) ca (vp_updL f 0 x)) (fun H h => h.a5) 3 rfl pg_in01 hdg (hin 5 (by omega)) (fun H H1 h hc hz ho => h.putL (by rw [pg_c0] at hc; exact hc) ho) kk
end PVX
