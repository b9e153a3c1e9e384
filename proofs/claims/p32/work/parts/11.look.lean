theorem pgBd_n {n : Nat} {ad : Nat → Nat} {i : Nat} (h : pgBd n ad i = none) : ¬ i < n := by
  intro q
  simp [pgBd, q] at h
theorem pgBd_s {n : Nat} {ad : Nat → Nat} {i y : Nat} (h : pgBd n ad i = some y) : i < n ∧ y = ad (13 + i) := by
  by_cases q : i < n
  · simp [pgBd, q] at h
    exact ⟨q, h.symm⟩
  · simp [pgBd, q] at h
theorem pgBd_nI {n : Nat} {ad : Nat → Nat} {i : Nat} (hi : i < 60) (h : pgBd n ad (ix (nI i)) = none) : ¬ i < n := by
  rw [show ix (nI i) = i from nI_clamp (by omega)] at h
  exact pgBd_n h
theorem pgBd_sI {n : Nat} {ad : Nat → Nat} {i y : Nat} (hi : i < 60) (h : pgBd n ad (ix (nI i)) = some y) : i < n ∧ y = ad (13 + i) := by
  rw [show ix (nI i) = i from nI_clamp (by omega)] at h
  exact pgBd_s h
theorem pgIsD_iff {n : Nat} {σ : pgSt} {d : Int32} (hI : pgI n σ) : pgIsD σ d ↔ ¬ d < 0 ∧ ix d < n := by
  constructor
  · intro h
    exact ⟨fun h2 => Int32.lt_irrefl (Int32.lt_of_lt_of_le h2 h.1), (h.at hI).1⟩
  · intro ⟨h1, h2⟩
    obtain ⟨j, hj, rfl⟩ := nI_of h1
    rw [show ix (nI j) = j from nI_clamp hj] at h2
    refine ⟨Int32.not_lt.mp h1, ?_⟩
    rw [hI.2.1]
    exact (nI_ltI hj (by have := hI.1; omega)).mpr h2
theorem pgIsD_60 {n : Nat} {σ : pgSt} {d : Int32} (hI : pgI n σ) (h : ¬ d < 60) : ¬ pgIsD σ d := by
  intro q
  obtain ⟨h1, h2⟩ := q.at hI
  rw [h2] at h
  exact h ((nI_ltI (a := ix d) (b := 60) (by have := hI.1; omega) (by omega)).mpr (by have := hI.1; omega))
theorem pg_in60 {d : Int32} (h0 : ¬ d < 0) (h : d < 60) : vp_in d 60 := pg_in0 h0 h (by omega)
theorem pg_in10 {d : Int32} (h0 : ¬ d < 0) (h : d < 10) : vp_in d 10 := pg_in0 h0 h (by omega)
theorem pg_eqN {i N : Nat} (hi : i ≤ N) (hN : N < 2 ^ 31) (h : nI N ≤ nI i) : N = i := by
  have := (nI_leI hN (by omega)).mp h
  omega
theorem pg_ltN {i N : Nat} (hN : N < 2 ^ 31) (hi : i ≤ N) (h : ¬ nI N ≤ nI i) : i < N := by
  rcases Nat.lt_or_ge i N with q | q
  · exact q
  · exact absurd (nI_le q (by omega)) h
theorem pgN_t {P : Nat → Bool} {i : Nat} (h : P i = true) : pgN P (i + 1) = pgN P i + 1 := by
  show pgN P i + _ = _
  rw [if_pos h]
theorem pgN_f {P : Nat → Bool} {i : Nat} (h : ¬ P i = true) : pgN P (i + 1) = pgN P i := by
  show pgN P i + _ = _
  rw [if_neg h]
  rfl
theorem pgN_t2 {P : Nat → Bool} {i : Nat} {x : Int32} (hx : x = nI (pgN P i)) (h : P i = true) : x + 1 = nI (pgN P (i + 1)) := by
  rw [hx, pgN_t h]
  exact nI_1 _
theorem pgN_f2 {P : Nat → Bool} {i : Nat} {x : Int32} (hx : x = nI (pgN P i)) (h : ¬ P i = true) : x = nI (pgN P (i + 1)) := by
  rw [hx, pgN_f h]
theorem pgN_60 {n : Nat} {Q : Nat → Prop} (dq : DecidablePred Q) (hn : n ≤ 60) : pgN (fun j => decide (j < n ∧ Q j)) 60 = pgN (fun j => decide (Q j)) n := by
  obtain ⟨k, hk⟩ : ∃ k, 60 = n + k := ⟨60 - n, by omega⟩
  rw [hk, pgN_pad (fun j hj => decide_eq_false (fun h => by have := h.1; omega)) k]
  exact pgN_congr (fun j hj => by simp [hj])
theorem j_loop {p : Program} {l : Launch} {e : Env} {R : Room} {s : State} {m : MethodId} {args : Array Value} {below : List Frame} {meth : Method} {c : Code} {nL : Nat} {A : Nat → Prop} {cells slots : Nat} {Q : State → Prop} {pc : Nat} {st : List Value} {X : Type} {N : Nat} (inv : Nat → X → Prop) (WdX : Nat → X → Heap → Prop) (LX : Nat → X → List (Nat × Value)) (step : ∀ (i : Nat) (x : X), i ≤ N → inv i x → (i < N → ∀ x2 : X, inv (i + 1) x2 → pgJ p l e R s m args below meth c nL A (WdX (i + 1) x2) cells slots Q pc (LX (i + 1) x2) st) → pgJ p l e R s m args below meth c nL A (WdX i x) cells slots Q pc (LX i x) st) : ∀ (i : Nat) (x : X), i ≤ N → inv i x → pgJ p l e R s m args below meth c nL A (WdX i x) cells slots Q pc (LX i x) st := by
  have key : ∀ (f i : Nat) (x : X), i ≤ N → N ≤ i + f → inv i x → pgJ p l e R s m args below meth c nL A (WdX i x) cells slots Q pc (LX i x) st := by
    intro f
    induction f with
    | zero =>
      intro i x h1 h2 h3
      exact step i x h1 h3 (fun h => by omega)
    | succ f ih =>
      intro i x h1 h2 h3
      exact step i x h1 h3 (fun h x2 hx2 => ih (i + 1) x2 (by omega) (by omega) hx2)
  exact fun i x h1 h3 => key N i x h1 (by omega) h3
set_option maxHeartbeats 4000000 in
set_option maxRecDepth 100000 in
/-- findDisk -/
theorem c_X2_findDisk (l : Launch) (hl : l.stackTraces = false) (D : va_G) (cD cC cI cZ cL : ClassId) (A : Nat → Prop) (σ : pgSt) (n : Nat) (ad : Nat → Nat) (hI : pgI n σ) (d : Int32) : vx_Met l yX2_findDisk (.code yX2_findDisk cX2_findDisk 3 (some (.object "Shredroll$Disk")) :: pgWd) ({ frames := 6, cells := 1, slots := 6, locals := 82 } : Room) (pgPc D (pgTys cD cC cI cZ cL) A (pgR D cD cC A σ n ad) [.ref (ad 0), .int d]) (va_Qr (fun (_ : Unit) => True) (fun _ a t9 => (a = ad (13 + ix d) ∧ pgIsD σ d) ∧ pgR D cD cC A σ n ad t9.heap) A) (pgX A (fun k => k = 1 ∧ ¬ pgIsD σ d) (pgR D cD cC A σ n ad)) 1 6 A := by
  refine pg_enterX (own := RX2) (by decide) rfl (Nat.le_of_ble_eq_true rfl) (fun p e s m below meth cc9 B hr hnm ht => ?_)
  refine j_iload_n B dX2_findDisk_0 1 rfl rfl ?_
  refine j_if_lt B 13 dX2_findDisk_1 (by decide) (fun h1 => ?_) (fun h1 => ?_)
  · refine j_null B dX2_findDisk_13 ?_
    refine j_goto B 23 dX2_findDisk_14 (by decide) ?_
    refine j_astore_nN B (L' := [(2, .null), (0, .ref (ad 0)), (1, .int d)]) dX2_findDisk_23 rfl (by decide) rfl ?_
    refine j_aload_nN B dX2_findDisk_24 0 rfl rfl ?_
    refine j_ifnonnullN B dX2_findDisk_25 ?_
    exact j_throw (k := 1) pgTI pgTI2 pgTI3 rfl q_86 q_6 rfl B hl ht (is := 186) (text := "there is no such disk") (by decide) dX2_findDisk_28 dX2_findDisk_31 dX2_findDisk_32 dX2_findDisk_34 dX2_findDisk_37 (Nat.le_of_ble_eq_true rfl) (Nat.le_of_ble_eq_true rfl) (Nat.le_of_ble_eq_true rfl) (Nat.le_of_ble_eq_true rfl) (Nat.le_of_ble_eq_true rfl) (Nat.le_of_ble_eq_true rfl) ⟨rfl, fun q => by have q1 := (pgIsD_iff hI).mp q; have q2 := fun z => pgIsD_60 (d := d) hI z q; grind⟩ (fun H H1 h hq => pgR.more h hq)
  · refine j_iload_n B dX2_findDisk_4 1 rfl rfl ?_
    refine j_aload_n B dX2_findDisk_5 0 rfl rfl ?_
    refine j_get B (v := .ref (ad 1)) pgX2 rfl (fun H h => pgR.x h) 0 (by decide) q_47 rfl rfl dX2_findDisk_6 ?_
    refine j_alen B (fun H h => pgR.bd h) 0 rfl (v := 60) rfl dX2_findDisk_9 ?_
    refine j_icmp_lt B 17 dX2_findDisk_10 (by decide) (fun h2 => ?_) (fun h2 => ?_)
    · refine j_aload_n B dX2_findDisk_17 0 rfl rfl ?_
      refine j_get B (v := .ref (ad 1)) pgX2 rfl (fun H h => pgR.x h) 0 (by decide) q_47 rfl rfl dX2_findDisk_18 ?_
      refine j_iload_n B dX2_findDisk_21 1 rfl rfl ?_
      refine j_aald B (fun H h => pgR.bd h) 0 rfl (pg_in60 h1 h2) dX2_findDisk_22 (fun h3 => ?_) (fun y4 h3 => ?_)
      · have nh3 := pgBd_n h3
        refine j_astore_nN B (L' := [(2, .null), (0, .ref (ad 0)), (1, .int d)]) dX2_findDisk_23 rfl (by decide) rfl ?_
        refine j_aload_nN B dX2_findDisk_24 0 rfl rfl ?_
        refine j_ifnonnullN B dX2_findDisk_25 ?_
        exact j_throw (k := 1) pgTI pgTI2 pgTI3 rfl q_86 q_6 rfl B hl ht (is := 186) (text := "there is no such disk") (by decide) dX2_findDisk_28 dX2_findDisk_31 dX2_findDisk_32 dX2_findDisk_34 dX2_findDisk_37 (Nat.le_of_ble_eq_true rfl) (Nat.le_of_ble_eq_true rfl) (Nat.le_of_ble_eq_true rfl) (Nat.le_of_ble_eq_true rfl) (Nat.le_of_ble_eq_true rfl) (Nat.le_of_ble_eq_true rfl) ⟨rfl, fun q => by have q1 := (pgIsD_iff hI).mp q; have q2 := fun z => pgIsD_60 (d := d) hI z q; grind⟩ (fun H H1 h hq => pgR.more h hq)
      · obtain ⟨jh3, rfl⟩ := pgBd_s h3
        refine j_astore_n B (L' := [(2, .ref (ad (13 + ix d))), (0, .ref (ad 0)), (1, .int d)]) dX2_findDisk_23 rfl (by decide) rfl ?_
        refine j_aload_n B dX2_findDisk_24 0 rfl rfl ?_
        refine j_ifnonnull B 38 dX2_findDisk_25 (by decide) ?_
        refine j_aload_n B dX2_findDisk_38 0 rfl rfl ?_
        exact j_x (j_aret B hr dX2_findDisk_39 (Nat.le_of_ble_eq_true rfl) (Nat.le_of_ble_eq_true rfl) ⟨rfl, (pgIsD_iff hI).mpr (by grind)⟩ (fun H h => h))
    · refine j_null B dX2_findDisk_13 ?_
      refine j_goto B 23 dX2_findDisk_14 (by decide) ?_
      refine j_astore_nN B (L' := [(2, .null), (0, .ref (ad 0)), (1, .int d)]) dX2_findDisk_23 rfl (by decide) rfl ?_
      refine j_aload_nN B dX2_findDisk_24 0 rfl rfl ?_
      refine j_ifnonnullN B dX2_findDisk_25 ?_
      exact j_throw (k := 1) pgTI pgTI2 pgTI3 rfl q_86 q_6 rfl B hl ht (is := 186) (text := "there is no such disk") (by decide) dX2_findDisk_28 dX2_findDisk_31 dX2_findDisk_32 dX2_findDisk_34 dX2_findDisk_37 (Nat.le_of_ble_eq_true rfl) (Nat.le_of_ble_eq_true rfl) (Nat.le_of_ble_eq_true rfl) (Nat.le_of_ble_eq_true rfl) (Nat.le_of_ble_eq_true rfl) (Nat.le_of_ble_eq_true rfl) ⟨rfl, fun q => by have q1 := (pgIsD_iff hI).mp q; have q2 := fun z => pgIsD_60 (d := d) hI z q; grind⟩ (fun H H1 h hq => pgR.more h hq)
set_option maxHeartbeats 4000000 in
set_option maxRecDepth 100000 in
/-- findCrate -/
theorem c_X2_findCrate (l : Launch) (hl : l.stackTraces = false) (D : va_G) (cD cC cI cZ cL : ClassId) (A : Nat → Prop) (σ : pgSt) (n : Nat) (ad : Nat → Nat) (d : Int32) : vx_Met l yX2_findCrate (.code yX2_findCrate cX2_findCrate 3 (some (.object "Shredroll$Crate")) :: pgWd) ({ frames := 6, cells := 1, slots := 6, locals := 82 } : Room) (pgPc D (pgTys cD cC cI cZ cL) A (pgR D cD cC A σ n ad) [.ref (ad 0), .int d]) (va_Qr (fun (_ : Unit) => True) (fun _ a t9 => (a = ad (3 + ix d) ∧ pgIsC d) ∧ pgR D cD cC A σ n ad t9.heap) A) (pgX A (fun k => k = 1 ∧ ¬ pgIsC d) (pgR D cD cC A σ n ad)) 1 6 A := by
  refine pg_enterX (own := RX2) (by decide) rfl (Nat.le_of_ble_eq_true rfl) (fun p e s m below meth cc9 B hr hnm ht => ?_)
  refine j_iload_n B dX2_findCrate_0 1 rfl rfl ?_
  refine j_if_lt B 13 dX2_findCrate_1 (by decide) (fun h1 => ?_) (fun h1 => ?_)
  · refine j_null B dX2_findCrate_13 ?_
    refine j_goto B 23 dX2_findCrate_14 (by decide) ?_
    refine j_astore_nN B (L' := [(2, .null), (0, .ref (ad 0)), (1, .int d)]) dX2_findCrate_23 rfl (by decide) rfl ?_
    refine j_aload_nN B dX2_findCrate_24 0 rfl rfl ?_
    refine j_ifnonnullN B dX2_findCrate_25 ?_
    exact j_throw (k := 1) pgTI pgTI2 pgTI3 rfl q_86 q_6 rfl B hl ht (is := 189) (text := "there is no such crate") (by decide) dX2_findCrate_28 dX2_findCrate_31 dX2_findCrate_32 dX2_findCrate_34 dX2_findCrate_37 (Nat.le_of_ble_eq_true rfl) (Nat.le_of_ble_eq_true rfl) (Nat.le_of_ble_eq_true rfl) (Nat.le_of_ble_eq_true rfl) (Nat.le_of_ble_eq_true rfl) (Nat.le_of_ble_eq_true rfl) ⟨rfl, fun q => by have q1 := fun z : d < 0 => Int32.lt_irrefl (Int32.lt_of_lt_of_le z q.1); grind⟩ (fun H H1 h hq => pgR.more h hq)
  · refine j_iload_n B dX2_findCrate_4 1 rfl rfl ?_
    refine j_aload_n B dX2_findCrate_5 0 rfl rfl ?_
    refine j_get B (v := .ref (ad 2)) pgX2 rfl (fun H h => pgR.x h) 1 (by decide) q_48 rfl rfl dX2_findCrate_6 ?_
    refine j_alen B (fun H h => pgR.ac h) 1 rfl (v := 10) rfl dX2_findCrate_9 ?_
    refine j_icmp_lt B 17 dX2_findCrate_10 (by decide) (fun h2 => ?_) (fun h2 => ?_)
    · refine j_aload_n B dX2_findCrate_17 0 rfl rfl ?_
      refine j_get B (v := .ref (ad 2)) pgX2 rfl (fun H h => pgR.x h) 1 (by decide) q_48 rfl rfl dX2_findCrate_18 ?_
      refine j_iload_n B dX2_findCrate_21 1 rfl rfl ?_
      refine j_aald B (fun H h => pgR.ac h) 1 rfl (pg_in10 h1 h2) dX2_findCrate_22 (fun h3 => ?_) (fun y4 h3 => ?_)
      · exact absurd h3 (by simp)
      · obtain rfl := Option.some.inj h3
        refine j_astore_n B (L' := [(2, .ref (ad (3 + ix d))), (0, .ref (ad 0)), (1, .int d)]) dX2_findCrate_23 rfl (by decide) rfl ?_
        refine j_aload_n B dX2_findCrate_24 0 rfl rfl ?_
        refine j_ifnonnull B 38 dX2_findCrate_25 (by decide) ?_
        refine j_aload_n B dX2_findCrate_38 0 rfl rfl ?_
        exact j_x (j_aret B hr dX2_findCrate_39 (Nat.le_of_ble_eq_true rfl) (Nat.le_of_ble_eq_true rfl) ⟨rfl, Int32.not_lt.mp h1, h2⟩ (fun H h => h))
    · refine j_null B dX2_findCrate_13 ?_
      refine j_goto B 23 dX2_findCrate_14 (by decide) ?_
      refine j_astore_nN B (L' := [(2, .null), (0, .ref (ad 0)), (1, .int d)]) dX2_findCrate_23 rfl (by decide) rfl ?_
      refine j_aload_nN B dX2_findCrate_24 0 rfl rfl ?_
      refine j_ifnonnullN B dX2_findCrate_25 ?_
      exact j_throw (k := 1) pgTI pgTI2 pgTI3 rfl q_86 q_6 rfl B hl ht (is := 189) (text := "there is no such crate") (by decide) dX2_findCrate_28 dX2_findCrate_31 dX2_findCrate_32 dX2_findCrate_34 dX2_findCrate_37 (Nat.le_of_ble_eq_true rfl) (Nat.le_of_ble_eq_true rfl) (Nat.le_of_ble_eq_true rfl) (Nat.le_of_ble_eq_true rfl) (Nat.le_of_ble_eq_true rfl) (Nat.le_of_ble_eq_true rfl) ⟨rfl, fun q => by have q1 := fun z : d < 0 => Int32.lt_irrefl (Int32.lt_of_lt_of_le z q.1); grind⟩ (fun H H1 h hq => pgR.more h hq)
set_option maxHeartbeats 4000000 in
set_option maxRecDepth 100000 in
/-- countDisksIn -/
theorem c_X2_countDisksIn (l : Launch) (D : va_G) (cD cC cI cZ cL : ClassId) (A : Nat → Prop) (σ : pgSt) (n : Nat) (ad : Nat → Nat) (c : Nat) (hc : c < 10) (hn9 : n ≤ 60) (hcr : pgCr n σ) : Met l yX2_countDisksIn (.code yX2_countDisksIn cX2_countDisksIn 7 (some .int) :: pgWd) ({ frames := 1, cells := 0, slots := 0, locals := 20 } : Room) (pgPc D (pgTys cD cC cI cZ cL) A (pgR D cD cC A σ n ad) [.ref (ad 0), .ref (ad (3 + c))]) (va_Qi (fun (r : Int32) (_ : Unit) => r = pgCnt σ n (nI c)) (fun _ t9 => pgR D cD cC A σ n ad t9.heap) A) 0 0 A := by
  refine pg_enter (own := RX2) (by decide) rfl (Nat.le_of_ble_eq_true rfl) (fun p e s m below meth cc9 B hr hnm => ?_)
  refine j_iconst B (v := 0) dX2_countDisksIn_0 (by decide) ?_
  refine j_istore_n B (L' := [(2, .int 0), (0, .ref (ad 0)), (1, .ref (ad (3 + c)))]) dX2_countDisksIn_1 rfl (by decide) rfl ?_
  refine j_aload_n B dX2_countDisksIn_2 1 rfl rfl ?_
  refine j_get B (v := .ref (ad 1)) pgX2 rfl (fun H h => pgR.x h) 0 (by decide) q_47 rfl rfl dX2_countDisksIn_3 ?_
  refine j_astore_n B (L' := [(3, .ref (ad 1)), (2, .int 0), (0, .ref (ad 0)), (1, .ref (ad (3 + c)))]) dX2_countDisksIn_6 rfl (by decide) rfl ?_
  refine j_aload_n B dX2_countDisksIn_7 0 rfl rfl ?_
  refine j_alen B (fun H h => pgR.bd h) 0 rfl (v := 60) rfl dX2_countDisksIn_8 ?_
  refine j_istore B (L' := [(4, .int 60), (3, .ref (ad 1)), (2, .int 0), (0, .ref (ad 0)), (1, .ref (ad (3 + c)))]) dX2_countDisksIn_9 (by decide) rfl ?_
  refine j_iconst B (v := 0) dX2_countDisksIn_11 (by decide) ?_
  refine j_istore B (L' := [(5, .int 0), (4, .int 60), (3, .ref (ad 1)), (2, .int 0), (0, .ref (ad 0)), (1, .ref (ad (3 + c)))]) dX2_countDisksIn_12 (by decide) rfl ?_
  refine j_locals [0, 1, 2, 3, 5, 4] rfl ?_
  refine j_loop (N := 60) (X := Int32) (fun i x => x = nI (pgN (fun j => decide (j < n ∧ σ 3 j = nI c)) i)) (fun i x => pgR D cD cC A σ n ad) (fun i x => [(5, .int (nI i)), (4, .int 60), (3, .ref (ad 1)), (2, .int x), (1, .ref (ad (3 + c))), (0, .ref (ad 0))]) (fun i x hi hv ih => ?_) 0 0 (by omega) rfl
  refine j_iload B dX2_countDisksIn_14 0 rfl ?_
  refine j_iload B dX2_countDisksIn_16 1 rfl ?_
  refine j_icmp_ge B 53 dX2_countDisksIn_18 (by decide) (fun h1 => ?_) (fun h1 => ?_)
  · obtain rfl := pg_eqN hi (by omega) h1
    refine j_iload_n B dX2_countDisksIn_53 3 rfl rfl ?_
    exact j_iret B hr rfl dX2_countDisksIn_54 (Nat.le_of_ble_eq_true rfl) (Nat.le_of_ble_eq_true rfl) () (hv.trans (congrArg nI (pgN_60 _ hn9))) (fun H h => h)
  · have hlt := pg_ltN (N := 60) (by omega) hi h1
    refine j_aload_n B dX2_countDisksIn_21 2 rfl rfl ?_
    refine j_iload B dX2_countDisksIn_22 0 rfl ?_
    refine j_aald B (fun H h => pgR.bd h) 0 rfl (vp_in_nI hlt (by omega)) dX2_countDisksIn_24 (fun h2 => ?_) (fun y3 h2 => ?_)
    · have nh2 := pgBd_nI hlt h2
      refine j_astoreN B (L' := [(6, .null), (5, .int (nI i)), (4, .int 60), (3, .ref (ad 1)), (2, .int x), (1, .ref (ad (3 + c))), (0, .ref (ad 0))]) dX2_countDisksIn_25 (by decide) rfl ?_
      refine j_aloadN B dX2_countDisksIn_27 0 rfl ?_
      refine j_ifnullN B 47 dX2_countDisksIn_29 (by decide) ?_
      refine j_iinc B (v := nI (i + 1)) (L' := [(5, .int (nI (i + 1))), (6, .null), (4, .int 60), (3, .ref (ad 1)), (2, .int x), (1, .ref (ad (3 + c))), (0, .ref (ad 0))]) dX2_countDisksIn_47 1 rfl (nI_1 i) (by decide) rfl ?_
      refine j_goto B 14 dX2_countDisksIn_50 (by decide) ?_
      refine j_locals [0, 2, 3, 4, 5, 6] rfl ?_
      exact ih hlt _ (pgN_f2 hv (by simp [*]))
    · obtain ⟨jh2, rfl⟩ := pgBd_sI hlt h2
      refine j_astore B (L' := [(6, .ref (ad (13 + i))), (5, .int (nI i)), (4, .int 60), (3, .ref (ad 1)), (2, .int x), (1, .ref (ad (3 + c))), (0, .ref (ad 0))]) dX2_countDisksIn_25 (by decide) rfl ?_
      refine j_aload B dX2_countDisksIn_27 0 rfl ?_
      refine j_ifnull B dX2_countDisksIn_29 ?_
      refine j_aload B dX2_countDisksIn_32 0 rfl ?_
      refine j_cVi B (S := Unit) 0 [] (WdC' := fun _ => pgR D cD cC A σ n ad) (fun _ => pgR D cD cC A σ n ad) (c_X1_crateNumber l D cD cC cI cZ cL A σ n ad i jh2 hcr) rfl (fun H h => pgR.dk h jh2) q_258 q_259 q_260 q_9 q_261 hdX1_crateNumber rfl ⟨Nat.le_of_ble_eq_true rfl, Nat.le_of_ble_eq_true rfl⟩ (Nat.le_of_ble_eq_true rfl) dX2_countDisksIn_34 rfl ⟨Nat.le_of_ble_eq_true rfl, Nat.le_of_ble_eq_true rfl⟩ (fun _ h => h) (fun _ _ _ _ h => h) (fun _ h => h) (fun _ _ _ _ h _ _ => h) (fun r4 _ hp5 => ?_)
      obtain rfl : r4 = σ 3 i := hp5
      refine j_aload_n B dX2_countDisksIn_37 5 rfl rfl ?_
      refine j_get B (v := .int (nI c)) pgX0 rfl (fun H h => pgR.cr h hc) 0 (by decide) q_33 rfl rfl dX2_countDisksIn_38 ?_
      refine j_icmp_ne B 47 dX2_countDisksIn_41 (by decide) (fun h6 => ?_) (fun h6 => ?_)
      · refine j_iinc B (v := nI (i + 1)) (L' := [(5, .int (nI (i + 1))), (6, .ref (ad (13 + i))), (4, .int 60), (3, .ref (ad 1)), (2, .int x), (1, .ref (ad (3 + c))), (0, .ref (ad 0))]) dX2_countDisksIn_47 1 rfl (nI_1 i) (by decide) rfl ?_
        refine j_goto B 14 dX2_countDisksIn_50 (by decide) ?_
        refine j_locals [0, 2, 3, 4, 5, 6] rfl ?_
        exact ih hlt _ (pgN_f2 hv (by simp [*]))
      · refine j_iinc B (v := (x + 1)) (L' := [(2, .int (x + 1)), (6, .ref (ad (13 + i))), (5, .int (nI i)), (4, .int 60), (3, .ref (ad 1)), (1, .ref (ad (3 + c))), (0, .ref (ad 0))]) dX2_countDisksIn_44 4 rfl rfl (by decide) rfl ?_
        refine j_iinc B (v := nI (i + 1)) (L' := [(5, .int (nI (i + 1))), (2, .int (x + 1)), (6, .ref (ad (13 + i))), (4, .int 60), (3, .ref (ad 1)), (1, .ref (ad (3 + c))), (0, .ref (ad 0))]) dX2_countDisksIn_47 2 rfl (nI_1 i) (by decide) rfl ?_
        refine j_goto B 14 dX2_countDisksIn_50 (by decide) ?_
        refine j_locals [0, 3, 4, 1, 5, 6] rfl ?_
        exact ih hlt _ (pgN_t2 hv (by simp [*]))
theorem pgHoN_3 {σ : pgSt} {c to : Int32} {k j : Nat} : pgHoN σ c to k 3 j = σ 3 j := by simp [pgHoN]
theorem pgHoN_cr {n : Nat} {σ : pgSt} {c to : Int32} {i : Nat} (h : pgCr n σ) : pgCr n (pgHoN σ c to i) := fun j hj => by
  rw [pgHoN_3]
  exact h j hj
theorem pgHoN_10 {σ : pgSt} {c to : Int32} {k j : Nat} : pgHoN σ c to k 10 j = σ 10 j := by simp [pgHoN]
theorem pgHoN_0 {σ : pgSt} {c to : Int32} : σ = pgHoN σ c to 0 := by
  funext t j
  simp only [pgHoN, pgCnt, pgN]
  by_cases h : t = 13 ∧ j = 3
  · obtain ⟨rfl, rfl⟩ := h
    simp
    exact (Int32.add_zero _).symm
  · simp [h]
theorem pgHoN_f {σ : pgSt} {c to : Int32} {i : Nat} (h : ¬ σ 3 i = c) : pgHoN σ c to i = pgHoN σ c to (i + 1) := by
  funext t j
  have e : pgCnt σ (i + 1) c = pgCnt σ i c := by
    show nI _ = nI _
    rw [pgN_f (by simp [h])]
  simp only [pgHoN, e]
  by_cases hj : j = i
  · subst hj
    simp [h]
  · have q : (j < i + 1) = (j < i) := by apply propext; omega
    simp only [q]
theorem pgHoN_t {σ : pgSt} {c to : Int32} {i : Nat} (h : σ 3 i = c) : pgHo (pgHoN σ c to i) i to = pgHoN σ c to (i + 1) := by
  have e : pgCnt σ (i + 1) c = pgCnt σ i c + 1 := by
    show nI _ = nI _ + 1
    rw [pgN_t (by simp [h]), nI_1]
  funext t j
  simp only [pgHo, pgU, pgHoN, e]
  by_cases h13 : t = 13 ∧ j = 3
  · obtain ⟨rfl, rfl⟩ := h13
    simp
    rw [Int32.add_assoc]
  · by_cases hj : j = i
    · subst hj
      by_cases h2 : t = 2
      · subst h2; simp [h]
      · by_cases h14 : t = 14
        · subst h14; simp [h]
        · simp [h13, h2, h14]
    · have q : (j < i + 1) = (j < i) := by apply propext; omega
      simp [h13, hj, q]
theorem pgHoM_n {σ : pgSt} {c to : Int32} {i n : Nat} (h : ¬ i < n) : pgHoN σ c to (min i n) = pgHoN σ c to (min (i + 1) n) := by
  rw [Nat.min_eq_right (by omega), Nat.min_eq_right (by omega)]
theorem pgHoM_f {σ : pgSt} {c to : Int32} {i n : Nat} (hi : i < n) (h : ¬ σ 3 i = c) : pgHoN σ c to (min i n) = pgHoN σ c to (min (i + 1) n) := by
  rw [Nat.min_eq_left (by omega), Nat.min_eq_left (by omega)]
  exact pgHoN_f h
theorem pgHoM_t {σ : pgSt} {c to to2 : Int32} {i n : Nat} (hi : i < n) (h : σ 3 i = c) (e : to2 = to) : pgHo (pgHoN σ c to (min i n)) i to2 = pgHoN σ c to (min (i + 1) n) := by
  subst e
  rw [Nat.min_eq_left (by omega), Nat.min_eq_left (by omega)]
  exact pgHoN_t h
set_option maxHeartbeats 4000000 in
set_option maxRecDepth 100000 in
/-- handOverDisksIn -/
theorem c_X2_handOverDisksIn (l : Launch) (D : va_G) (cD cC cI cZ cL : ClassId) (A : Nat → Prop) (σ : pgSt) (n : Nat) (ad : Nat → Nat) (c : Nat) (hc : c < 10) (hn9 : n ≤ 60) (hcr : pgCr n σ) : Met l yX2_handOverDisksIn (.code yX2_handOverDisksIn cX2_handOverDisksIn 6 none :: pgWd) ({ frames := 1, cells := 0, slots := 0, locals := 22 } : Room) (pgPc D (pgTys cD cC cI cZ cL) A (pgR D cD cC A σ n ad) [.ref (ad 0), .ref (ad (3 + c))]) (va_Qv (fun (_ : Unit) => True) (fun _ t9 => pgR D cD cC A (pgHoN σ (nI c) (σ 10 c) n) n ad t9.heap) A) 0 0 A := by
  refine pg_enter (own := RX2) (by decide) rfl (Nat.le_of_ble_eq_true rfl) (fun p e s m below meth cc9 B hr hnm => ?_)
  refine j_fact (fun H h => pgR.inA h) (fun hIn => ?_)
  refine j_aload_n B dX2_handOverDisksIn_0 0 rfl rfl ?_
  refine j_get B (v := .ref (ad 1)) pgX2 rfl (fun H h => pgR.x h) 0 (by decide) q_47 rfl rfl dX2_handOverDisksIn_1 ?_
  refine j_astore_n B (L' := [(2, .ref (ad 1)), (0, .ref (ad 0)), (1, .ref (ad (3 + c)))]) dX2_handOverDisksIn_4 rfl (by decide) rfl ?_
  refine j_aload_n B dX2_handOverDisksIn_5 0 rfl rfl ?_
  refine j_alen B (fun H h => pgR.bd h) 0 rfl (v := 60) rfl dX2_handOverDisksIn_6 ?_
  refine j_istore_n B (L' := [(3, .int 60), (2, .ref (ad 1)), (0, .ref (ad 0)), (1, .ref (ad (3 + c)))]) dX2_handOverDisksIn_7 rfl (by decide) rfl ?_
  refine j_iconst B (v := 0) dX2_handOverDisksIn_8 (by decide) ?_
  refine j_istore B (L' := [(4, .int 0), (3, .int 60), (2, .ref (ad 1)), (0, .ref (ad 0)), (1, .ref (ad (3 + c)))]) dX2_handOverDisksIn_9 (by decide) rfl ?_
  refine j_locals [0, 1, 2, 4, 3] rfl ?_
  refine j_world (Wd' := pgR D cD cC A (pgHoN σ (nI c) (σ 10 c) (min 0 n)) n ad) (fun H h => pgR.eq h (by rw [Nat.zero_min]; exact pgHoN_0)) ?_
  refine j_loop (N := 60) (X := Unit) (fun i x => True) (fun i x => pgR D cD cC A (pgHoN σ (nI c) (σ 10 c) (min i n)) n ad) (fun i x => [(4, .int (nI i)), (3, .int 60), (2, .ref (ad 1)), (1, .ref (ad (3 + c))), (0, .ref (ad 0))]) (fun i x hi hv ih => ?_) 0 () (by omega) trivial
  refine j_iload B dX2_handOverDisksIn_11 0 rfl ?_
  refine j_iload_n B dX2_handOverDisksIn_13 1 rfl rfl ?_
  refine j_icmp_ge B 56 dX2_handOverDisksIn_14 (by decide) (fun h1 => ?_) (fun h1 => ?_)
  · obtain rfl := pg_eqN hi (by omega) h1
    exact j_vret B hr dX2_handOverDisksIn_56 (Nat.le_of_ble_eq_true rfl) (Nat.le_of_ble_eq_true rfl) () trivial (fun H h => pgR.eq h (congrArg _ (Nat.min_eq_right hn9)))
  · have hlt := pg_ltN (N := 60) (by omega) hi h1
    refine j_aload_n B dX2_handOverDisksIn_17 2 rfl rfl ?_
    refine j_iload B dX2_handOverDisksIn_18 0 rfl ?_
    refine j_aald B (fun H h => pgR.bd h) 0 rfl (vp_in_nI hlt (by omega)) dX2_handOverDisksIn_20 (fun h2 => ?_) (fun y3 h2 => ?_)
    · have nh2 := pgBd_nI hlt h2
      refine j_astoreN B (L' := [(5, .null), (4, .int (nI i)), (3, .int 60), (2, .ref (ad 1)), (1, .ref (ad (3 + c))), (0, .ref (ad 0))]) dX2_handOverDisksIn_21 (by decide) rfl ?_
      refine j_aloadN B dX2_handOverDisksIn_23 0 rfl ?_
      refine j_ifnullN B 50 dX2_handOverDisksIn_25 (by decide) ?_
      refine j_iinc B (v := nI (i + 1)) (L' := [(4, .int (nI (i + 1))), (5, .null), (3, .int 60), (2, .ref (ad 1)), (1, .ref (ad (3 + c))), (0, .ref (ad 0))]) dX2_handOverDisksIn_50 1 rfl (nI_1 i) (by decide) rfl ?_
      refine j_goto B 11 dX2_handOverDisksIn_53 (by decide) ?_
      refine j_locals [0, 2, 3, 4, 5] rfl ?_
      exact j_world (fun H h => pgR.eq h (pgHoM_n (by assumption))) (ih hlt () trivial)
    · obtain ⟨jh2, rfl⟩ := pgBd_sI hlt h2
      refine j_astore B (L' := [(5, .ref (ad (13 + i))), (4, .int (nI i)), (3, .int 60), (2, .ref (ad 1)), (1, .ref (ad (3 + c))), (0, .ref (ad 0))]) dX2_handOverDisksIn_21 (by decide) rfl ?_
      refine j_aload B dX2_handOverDisksIn_23 0 rfl ?_
      refine j_ifnull B dX2_handOverDisksIn_25 ?_
      refine j_aload B dX2_handOverDisksIn_28 0 rfl ?_
      refine j_cVi B (S := Unit) 0 [] (WdC' := fun _ => pgR D cD cC A (pgHoN σ (nI c) (σ 10 c) (min i n)) n ad) (fun _ => pgR D cD cC A (pgHoN σ (nI c) (σ 10 c) (min i n)) n ad) (c_X1_crateNumber l D cD cC cI cZ cL A (pgHoN σ (nI c) (σ 10 c) (min i n)) n ad i jh2 (pgHoN_cr hcr)) rfl (fun H h => pgR.dk h jh2) q_258 q_259 q_260 q_9 q_261 hdX1_crateNumber rfl ⟨Nat.le_of_ble_eq_true rfl, Nat.le_of_ble_eq_true rfl⟩ (Nat.le_of_ble_eq_true rfl) dX2_handOverDisksIn_30 rfl ⟨Nat.le_of_ble_eq_true rfl, Nat.le_of_ble_eq_true rfl⟩ (fun _ h => h) (fun _ _ _ _ h => h) (fun _ h => h) (fun _ _ _ _ h _ _ => h) (fun r4 _ hp5 => ?_)
      obtain rfl : r4 = (pgHoN σ (nI c) (σ 10 c) (min i n)) 3 i := hp5
      refine j_aload_n B dX2_handOverDisksIn_33 4 rfl rfl ?_
      refine j_get B (v := .int (nI c)) pgX0 rfl (fun H h => pgR.cr h hc) 0 (by decide) q_33 rfl rfl dX2_handOverDisksIn_34 ?_
      refine j_icmp_ne B 50 dX2_handOverDisksIn_37 (by decide) (fun h6 => ?_) (fun h6 => ?_)
      · rw [pgHoN_3] at h6
        refine j_iinc B (v := nI (i + 1)) (L' := [(4, .int (nI (i + 1))), (5, .ref (ad (13 + i))), (3, .int 60), (2, .ref (ad 1)), (1, .ref (ad (3 + c))), (0, .ref (ad 0))]) dX2_handOverDisksIn_50 1 rfl (nI_1 i) (by decide) rfl ?_
        refine j_goto B 11 dX2_handOverDisksIn_53 (by decide) ?_
        refine j_locals [0, 2, 3, 4, 5] rfl ?_
        exact j_world (fun H h => pgR.eq h (pgHoM_f (by assumption) (by assumption))) (ih hlt () trivial)
      · rw [pgHoN_3] at h6
        refine j_aload_n B dX2_handOverDisksIn_40 5 rfl rfl ?_
        refine j_aload B dX2_handOverDisksIn_41 0 rfl ?_
        refine j_aload_n B dX2_handOverDisksIn_43 4 rfl rfl ?_
        refine j_get B (v := .int ((pgHoN σ (nI c) (σ 10 c) (min i n)) 10 c)) pgX0 rfl (fun H h => pgR.cr h hc) 1 (by decide) q_34 rfl rfl dX2_handOverDisksIn_44 ?_
        refine j_cVv B (S := Unit) 2 [.ref (ad (13 + i)), .int ((pgHoN σ (nI c) (σ 10 c) (min i n)) 10 c)] (WdC' := fun _ => pgR D cD cC A (pgU (pgU (pgU (pgHoN σ (nI c) (σ 10 c) (min i n)) 2 i ((pgHoN σ (nI c) (σ 10 c) (min i n)) 10 c)) 14 i ((pgHoN σ (nI c) (σ 10 c) (min i n)) 10 c)) 13 3 ((pgHoN σ (nI c) (σ 10 c) (min i n)) 13 3 + 1)) n ad) (fun _ => pgR D cD cC A (pgU (pgU (pgU (pgHoN σ (nI c) (σ 10 c) (min i n)) 2 i ((pgHoN σ (nI c) (σ 10 c) (min i n)) 10 c)) 14 i ((pgHoN σ (nI c) (σ 10 c) (min i n)) 10 c)) 13 3 ((pgHoN σ (nI c) (σ 10 c) (min i n)) 13 3 + 1)) n ad) (c_X2_handOver l D cD cC cI cZ cL A (pgHoN σ (nI c) (σ 10 c) (min i n)) n ad i jh2 ((pgHoN σ (nI c) (σ 10 c) (min i n)) 10 c)) rfl (fun H h => pgR.x h) q_237 q_239 q_p1 q_1 q_240 hdX2_handOver rfl ⟨Nat.le_of_ble_eq_true rfl, Nat.le_of_ble_eq_true rfl⟩ (Nat.le_of_ble_eq_true rfl) dX2_handOverDisksIn_47 rfl ⟨Nat.le_of_ble_eq_true rfl, Nat.le_of_ble_eq_true rfl⟩ (fun _ h => h) (fun _ _ _ _ h => h) (fun _ h => h) (fun _ _ _ _ h _ _ => h) (fun _ _ => ?_)
        refine j_iinc B (v := nI (i + 1)) (L' := [(4, .int (nI (i + 1))), (5, .ref (ad (13 + i))), (3, .int 60), (2, .ref (ad 1)), (1, .ref (ad (3 + c))), (0, .ref (ad 0))]) dX2_handOverDisksIn_50 1 rfl (nI_1 i) (by decide) rfl ?_
        refine j_goto B 11 dX2_handOverDisksIn_53 (by decide) ?_
        refine j_locals [0, 2, 3, 4, 5] rfl ?_
        exact j_world (fun H h => pgR.eq h (pgHoM_t (by assumption) (by assumption) pgHoN_10)) (ih hlt () trivial)
theorem pgI_n {n : Nat} {σ : pgSt} (hI : pgI n σ) : ix (σ 13 0) = n := by
  rw [hI.2.1]
  exact nI_clamp (by have := hI.1; omega)
set_option maxHeartbeats 4000000 in
set_option maxRecDepth 100000 in
/-- has -/
theorem c_X2_has (l : Launch) (hl : l.stackTraces = false) (D : va_G) (cD cC cI cZ cL : ClassId) (A : Nat → Prop) (σ : pgSt) (n : Nat) (ad : Nat → Nat) (hI : pgI n σ) (k0 : Int32) : vx_Met l yX2_has (.code yX2_has cX2_has 7 (some .int) :: pgWd) ({ frames := 7, cells := 1, slots := 6, locals := 102 } : Room) (pgPc D (pgTys cD cC cI cZ cL) A (pgR D cD cC A σ n ad) [.ref (ad 0), .int k0]) (va_Qi (fun (r : Int32) (_ : Unit) => (sp_has σ k0).1 = 0 ∧ r = (sp_has σ k0).2.1) (fun _ t9 => pgR D cD cC A σ n ad t9.heap) A) (pgX A (fun k => (sp_has σ k0).1 = k ∧ k ≠ 0) (pgR D cD cC A σ n ad)) 1 6 A := by
  refine pg_enterX (own := RX2) (by decide) rfl (Nat.le_of_ble_eq_true rfl) (fun p e s m below meth cc9 B hr hnm ht => ?_)
  refine j_iload_n B dX2_has_0 1 rfl rfl ?_
  refine j_xSv B 1 [.int k0] ht (S := Unit) (WdC' := fun _ => pgR D cD cC A σ n ad)  (c_X2_requireKeeper l hl D cD cC cI cZ cL A σ n ad k0) q_83 q_84 q_1 q_85 hdX2_requireKeeper rfl ⟨Nat.le_of_ble_eq_true rfl, Nat.le_of_ble_eq_true rfl⟩ (Nat.le_of_ble_eq_true rfl) dX2_has_1 rfl ⟨Nat.le_of_ble_eq_true rfl, Nat.le_of_ble_eq_true rfl⟩ (Nat.le_of_ble_eq_true rfl) (Nat.le_of_ble_eq_true rfl) (fun k h => by obtain ⟨rfl, h9⟩ := h; simp [sp_has, h9]) (fun H h => h) (fun u1 hp2 => ?_)
  refine j_iconst B (v := 0) dX2_has_4 (by decide) ?_
  refine j_istore_n B (L' := [(2, .int 0), (0, .ref (ad 0)), (1, .int k0)]) dX2_has_5 rfl (by decide) rfl ?_
  refine j_aload_n B dX2_has_6 1 rfl rfl ?_
  refine j_get B (v := .ref (ad 1)) pgX2 rfl (fun H h => pgR.x h) 0 (by decide) q_47 rfl rfl dX2_has_7 ?_
  refine j_astore_n B (L' := [(3, .ref (ad 1)), (2, .int 0), (0, .ref (ad 0)), (1, .int k0)]) dX2_has_10 rfl (by decide) rfl ?_
  refine j_aload_n B dX2_has_11 0 rfl rfl ?_
  refine j_alen B (fun H h => pgR.bd h) 0 rfl (v := 60) rfl dX2_has_12 ?_
  refine j_istore B (L' := [(4, .int 60), (3, .ref (ad 1)), (2, .int 0), (0, .ref (ad 0)), (1, .int k0)]) dX2_has_13 (by decide) rfl ?_
  refine j_iconst B (v := 0) dX2_has_15 (by decide) ?_
  refine j_istore B (L' := [(5, .int 0), (4, .int 60), (3, .ref (ad 1)), (2, .int 0), (0, .ref (ad 0)), (1, .int k0)]) dX2_has_16 (by decide) rfl ?_
  refine j_locals [0, 1, 2, 3, 5, 4] rfl ?_
  refine j_loop (N := 60) (X := Int32) (fun i x => x = nI (pgN (fun j => decide (j < n ∧ σ 2 j = k0)) i)) (fun i x => pgR D cD cC A σ n ad) (fun i x => [(5, .int (nI i)), (4, .int 60), (3, .ref (ad 1)), (2, .int x), (1, .int k0), (0, .ref (ad 0))]) (fun i x hi hv ih => ?_) 0 0 (by omega) rfl
  refine j_iload B dX2_has_18 0 rfl ?_
  refine j_iload B dX2_has_20 1 rfl ?_
  refine j_icmp_ge B 54 dX2_has_22 (by decide) (fun h3 => ?_) (fun h3 => ?_)
  · obtain rfl := pg_eqN hi (by omega) h3
    refine j_iload_n B dX2_has_54 3 rfl rfl ?_
    have hv2 := hv.trans (congrArg nI (pgN_60 _ hI.1))
    have hv3 : ix (σ 13 0) = n := pgI_n hI
    exact j_x (j_iret B hr rfl dX2_has_55 (Nat.le_of_ble_eq_true rfl) (Nat.le_of_ble_eq_true rfl) () (by simp only [sp_has, hv3]; grind) (fun H h => h))
  · have hlt := pg_ltN (N := 60) (by omega) hi h3
    refine j_aload_n B dX2_has_25 2 rfl rfl ?_
    refine j_iload B dX2_has_26 0 rfl ?_
    refine j_aald B (fun H h => pgR.bd h) 0 rfl (vp_in_nI hlt (by omega)) dX2_has_28 (fun h4 => ?_) (fun y5 h4 => ?_)
    · have nh4 := pgBd_nI hlt h4
      refine j_astoreN B (L' := [(6, .null), (5, .int (nI i)), (4, .int 60), (3, .ref (ad 1)), (2, .int x), (1, .int k0), (0, .ref (ad 0))]) dX2_has_29 (by decide) rfl ?_
      refine j_aloadN B dX2_has_31 0 rfl ?_
      refine j_ifnullN B 48 dX2_has_33 (by decide) ?_
      refine j_iinc B (v := nI (i + 1)) (L' := [(5, .int (nI (i + 1))), (6, .null), (4, .int 60), (3, .ref (ad 1)), (2, .int x), (1, .int k0), (0, .ref (ad 0))]) dX2_has_48 1 rfl (nI_1 i) (by decide) rfl ?_
      refine j_goto B 18 dX2_has_51 (by decide) ?_
      refine j_locals [0, 2, 3, 4, 5, 6] rfl ?_
      exact ih hlt _ (pgN_f2 hv (by simp [*]))
    · obtain ⟨jh4, rfl⟩ := pgBd_sI hlt h4
      refine j_astore B (L' := [(6, .ref (ad (13 + i))), (5, .int (nI i)), (4, .int 60), (3, .ref (ad 1)), (2, .int x), (1, .int k0), (0, .ref (ad 0))]) dX2_has_29 (by decide) rfl ?_
      refine j_aload B dX2_has_31 0 rfl ?_
      refine j_ifnull B dX2_has_33 ?_
      refine j_aload B dX2_has_36 0 rfl ?_
      refine j_get B (v := .int (σ 2 i)) pgX1 rfl (fun H h => pgR.dk h jh4) 2 (by decide) q_198 rfl rfl dX2_has_38 ?_
      refine j_iload_n B dX2_has_41 5 rfl rfl ?_
      refine j_icmp_ne B 48 dX2_has_42 (by decide) (fun h6 => ?_) (fun h6 => ?_)
      · refine j_iinc B (v := nI (i + 1)) (L' := [(5, .int (nI (i + 1))), (6, .ref (ad (13 + i))), (4, .int 60), (3, .ref (ad 1)), (2, .int x), (1, .int k0), (0, .ref (ad 0))]) dX2_has_48 1 rfl (nI_1 i) (by decide) rfl ?_
        refine j_goto B 18 dX2_has_51 (by decide) ?_
        refine j_locals [0, 2, 3, 4, 5, 6] rfl ?_
        exact ih hlt _ (pgN_f2 hv (by simp [*]))
      · refine j_iinc B (v := (x + 1)) (L' := [(2, .int (x + 1)), (6, .ref (ad (13 + i))), (5, .int (nI i)), (4, .int 60), (3, .ref (ad 1)), (1, .int k0), (0, .ref (ad 0))]) dX2_has_45 4 rfl rfl (by decide) rfl ?_
        refine j_iinc B (v := nI (i + 1)) (L' := [(5, .int (nI (i + 1))), (2, .int (x + 1)), (6, .ref (ad (13 + i))), (4, .int 60), (3, .ref (ad 1)), (1, .int k0), (0, .ref (ad 0))]) dX2_has_48 2 rfl (nI_1 i) (by decide) rfl ?_
        refine j_goto B 18 dX2_has_51 (by decide) ?_
        refine j_locals [0, 3, 4, 1, 5, 6] rfl ?_
        exact ih hlt _ (pgN_t2 hv (by simp [*]))
set_option maxHeartbeats 4000000 in
set_option maxRecDepth 100000 in
/-- missing -/
theorem c_X2_missing (l : Launch) (D : va_G) (cD cC cI cZ cL : ClassId) (A : Nat → Prop) (σ : pgSt) (n : Nat) (ad : Nat → Nat) (hI : pgI n σ) : Met l yX2_missing (.code yX2_missing cX2_missing 6 (some .int) :: pgWd) ({ frames := 0, cells := 0, slots := 0, locals := 0 } : Room) (pgPc D (pgTys cD cC cI cZ cL) A (pgR D cD cC A σ n ad) [.ref (ad 0)]) (va_Qi (fun (r : Int32) (_ : Unit) => r = pgMis σ) (fun _ t9 => pgR D cD cC A σ n ad t9.heap) A) 0 0 A := by
  refine pg_enter (own := RX2) (by decide) rfl (Nat.le_of_ble_eq_true rfl) (fun p e s m below meth cc9 B hr hnm => ?_)
  refine j_iconst B (v := 0) dX2_missing_0 (by decide) ?_
  refine j_istore_n B (L' := [(1, .int 0), (0, .ref (ad 0))]) dX2_missing_1 rfl (by decide) rfl ?_
  refine j_aload_n B dX2_missing_2 1 rfl rfl ?_
  refine j_get B (v := .ref (ad 1)) pgX2 rfl (fun H h => pgR.x h) 0 (by decide) q_47 rfl rfl dX2_missing_3 ?_
  refine j_astore_n B (L' := [(2, .ref (ad 1)), (1, .int 0), (0, .ref (ad 0))]) dX2_missing_6 rfl (by decide) rfl ?_
  refine j_aload_n B dX2_missing_7 0 rfl rfl ?_
  refine j_alen B (fun H h => pgR.bd h) 0 rfl (v := 60) rfl dX2_missing_8 ?_
  refine j_istore_n B (L' := [(3, .int 60), (2, .ref (ad 1)), (1, .int 0), (0, .ref (ad 0))]) dX2_missing_9 rfl (by decide) rfl ?_
  refine j_iconst B (v := 0) dX2_missing_10 (by decide) ?_
  refine j_istore B (L' := [(4, .int 0), (3, .int 60), (2, .ref (ad 1)), (1, .int 0), (0, .ref (ad 0))]) dX2_missing_11 (by decide) rfl ?_
  refine j_locals [0, 1, 2, 3, 4] rfl ?_
  refine j_loop (N := 60) (X := Int32) (fun i x => x = nI (pgN (fun j => decide (j < n ∧ σ 5 j ≠ 0)) i)) (fun i x => pgR D cD cC A σ n ad) (fun i x => [(4, .int (nI i)), (3, .int 60), (2, .ref (ad 1)), (1, .int x), (0, .ref (ad 0))]) (fun i x hi hv ih => ?_) 0 0 (by omega) rfl
  refine j_iload B dX2_missing_13 0 rfl ?_
  refine j_iload_n B dX2_missing_15 1 rfl rfl ?_
  refine j_icmp_ge B 47 dX2_missing_16 (by decide) (fun h1 => ?_) (fun h1 => ?_)
  · obtain rfl := pg_eqN hi (by omega) h1
    refine j_iload_n B dX2_missing_47 3 rfl rfl ?_
    have hv3 : ix (σ 13 0) = n := pgI_n hI
    exact j_iret B hr rfl dX2_missing_48 (Nat.le_of_ble_eq_true rfl) (Nat.le_of_ble_eq_true rfl) () (by rw [pgMis, hv3]; exact hv.trans (congrArg nI (pgN_60 _ hI.1))) (fun H h => h)
  · have hlt := pg_ltN (N := 60) (by omega) hi h1
    refine j_aload_n B dX2_missing_19 2 rfl rfl ?_
    refine j_iload B dX2_missing_20 0 rfl ?_
    refine j_aald B (fun H h => pgR.bd h) 0 rfl (vp_in_nI hlt (by omega)) dX2_missing_22 (fun h2 => ?_) (fun y3 h2 => ?_)
    · have nh2 := pgBd_nI hlt h2
      refine j_astoreN B (L' := [(5, .null), (4, .int (nI i)), (3, .int 60), (2, .ref (ad 1)), (1, .int x), (0, .ref (ad 0))]) dX2_missing_23 (by decide) rfl ?_
      refine j_aloadN B dX2_missing_25 0 rfl ?_
      refine j_ifnullN B 41 dX2_missing_27 (by decide) ?_
      refine j_iinc B (v := nI (i + 1)) (L' := [(4, .int (nI (i + 1))), (5, .null), (3, .int 60), (2, .ref (ad 1)), (1, .int x), (0, .ref (ad 0))]) dX2_missing_41 1 rfl (nI_1 i) (by decide) rfl ?_
      refine j_goto B 13 dX2_missing_44 (by decide) ?_
      refine j_locals [0, 2, 3, 4, 5] rfl ?_
      exact ih hlt _ (pgN_f2 hv (by simp [*]))
    · obtain ⟨jh2, rfl⟩ := pgBd_sI hlt h2
      refine j_astore B (L' := [(5, .ref (ad (13 + i))), (4, .int (nI i)), (3, .int 60), (2, .ref (ad 1)), (1, .int x), (0, .ref (ad 0))]) dX2_missing_23 (by decide) rfl ?_
      refine j_aload B dX2_missing_25 0 rfl ?_
      refine j_ifnull B dX2_missing_27 ?_
      refine j_aload B dX2_missing_30 0 rfl ?_
      refine j_get B (v := .int (σ 5 i)) pgX1 rfl (fun H h => pgR.dk h jh2) 9 (by decide) q_210 rfl rfl dX2_missing_32 ?_
      refine j_if_eq B 41 dX2_missing_35 (by decide) (fun h4 => ?_) (fun h4 => ?_)
      · refine j_iinc B (v := nI (i + 1)) (L' := [(4, .int (nI (i + 1))), (5, .ref (ad (13 + i))), (3, .int 60), (2, .ref (ad 1)), (1, .int x), (0, .ref (ad 0))]) dX2_missing_41 1 rfl (nI_1 i) (by decide) rfl ?_
        refine j_goto B 13 dX2_missing_44 (by decide) ?_
        refine j_locals [0, 2, 3, 4, 5] rfl ?_
        exact ih hlt _ (pgN_f2 hv (by simp [*]))
      · refine j_iinc B (v := (x + 1)) (L' := [(1, .int (x + 1)), (5, .ref (ad (13 + i))), (4, .int (nI i)), (3, .int 60), (2, .ref (ad 1)), (0, .ref (ad 0))]) dX2_missing_38 4 rfl rfl (by decide) rfl ?_
        refine j_iinc B (v := nI (i + 1)) (L' := [(4, .int (nI (i + 1))), (1, .int (x + 1)), (5, .ref (ad (13 + i))), (3, .int 60), (2, .ref (ad 1)), (0, .ref (ad 0))]) dX2_missing_41 2 rfl (nI_1 i) (by decide) rfl ?_
        refine j_goto B 13 dX2_missing_44 (by decide) ?_
        refine j_locals [0, 3, 4, 1, 5] rfl ?_
        exact ih hlt _ (pgN_t2 hv (by simp [*]))
