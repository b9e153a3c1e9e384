theorem pgI_s0 : pgI 0 pgS0 := by
  refine ⟨by omega, rfl, fun j hj => by omega, ⟨0, by omega, rfl, fun c hc => Or.inl (by simp [pgS0, hc])⟩, fun j _ => ⟨by simp [pgS0], by simp [pgS0], by simp [pgS0]⟩, fun j hj => by omega⟩
/-- the law's arrays as they are made: the doers below i are -1 -/
def pvBy (i : Nat) : pgSt := fun t j => if t = 4 ∧ j < i then -1 else 0
theorem pvBy_s {i : Nat} : pgU (pvBy i) 4 i (-1) = pvBy (i + 1) := by
  funext t j
  unfold pgU pvBy
  by_cases h1 : t = 4
  · by_cases h2 : j = i
    · subst h1; subst h2
      simp
    · have e : (j < i + 1) = (j < i) := by apply propext; omega
      simp [h1, h2, e]
  · simp [h1]
theorem pvI_0 : pvI 0 pgS0 (pvBy 60) 0 0 := by
  refine ⟨pgI_s0, ⟨rfl, rfl, rfl, rfl, rfl⟩, fun j hj => absurd hj (Nat.not_lt_zero j), fun j _ hj => by simp [pvBy, hj], fun c hc => ⟨⟨0, by omega, rfl⟩, rfl, ⟨0, by omega, rfl⟩⟩, ⟨0, Nat.le_refl 0, rfl, fun j hj => absurd hj (Nat.not_lt_zero j)⟩, fun j _ => ⟨fun z => absurd z pvB_0, fun z => absurd (by simp [pgS0]) z⟩⟩
/-- the class's world beside fresh arrays -/
def pvG (D : va_G) (cD cC : ClassId) (A : Nat → Prop) (u : Nat → Nat) (l : List (Nat × va_E)) (H : Heap) : Prop :=
  pgR D cD cC A pgS0 0 u H ∧ (∀ z ∈ l, va_at D vwCl z H) ∧ (∀ z ∈ l, ∀ i, i < 13 → u i ≠ z.1) ∧ l.Pairwise (fun a b => a.1 ≠ b.1)
theorem pvG.start {D : va_G} {cD cC : ClassId} {A : Nat → Prop} {u : Nat → Nat} {H : Heap} (h : pgR D cD cC A pgS0 0 u H) : pvG D cD cC A u [] H := ⟨h, fun _ h => absurd h List.not_mem_nil, fun _ h => absurd h List.not_mem_nil, List.Pairwise.nil⟩
theorem pvG.cons {D : va_G} {cD cC : ClassId} {A : Nat → Prop} {u : Nat → Nat} {l : List (Nat × va_E)} {q : Nat} {x : va_E} {H1 : Heap} (h : pgFresh D (pvG D cD cC A u l) q x H1) : pvG D cD cC A u ((q, x) :: l) H1 := by
  obtain ⟨H, ⟨h1, h2, h3, h4⟩, e0, -, ho, hx⟩ := h
  refine ⟨h1.kept (fun k hk => ho _ (by rw [← e0]; exact h1.lt hk)), fun z hz => ?_, fun z hz i hi => ?_, List.Pairwise.cons (fun z hz => ?_) h4⟩
  · rcases List.mem_cons.mp hz with rfl | hz
    · exact hx
    · exact (h2 z hz).kept (ho _ (by rw [← e0]; exact (h2 z hz).lt))
  · rcases List.mem_cons.mp hz with rfl | hz
    · have := h1.lt (k := i) (by omega)
      show u i ≠ q
      omega
    · exact h3 z hz i hi
  · have := (h2 z hz).lt
    show q ≠ z.1
    omega
theorem pvG.done {D : va_G} {cD cC cI cL : ClassId} {A : Nat → Prop} {u ca : Nat → Nat} {H : Heap} (h : pvG D cD cC A u [(ca 5, .inl (cL, 1, .inr (.inl (fun _ => 0)))), (ca 4, .inl (cI, 60, .inl (fun _ => 0))), (ca 3, .inl (cI, 10, .inl (fun _ => 0))), (ca 2, .inl (cI, 60, .inl (fun _ => 0))), (ca 1, .inl (cI, 60, .inl (fun _ => 0))), (ca 0, .inl (cI, 5, .inl (fun _ => 0)))] H) (hA : ∀ k, k < 6 → A (ca k)) : pvW D cD cC cI cL A pgS0 0 u (pvBy 0) ca (fun _ => 0) H := by
  obtain ⟨h1, h2, h3, h4⟩ := h
  have hne : ∀ i, i < 13 → ∀ k, k < 6 → u i ≠ ca k := by
    intro i hi k hk
    rcases (show k = 0 ∨ k = 1 ∨ k = 2 ∨ k = 3 ∨ k = 4 ∨ k = 5 by omega) with rfl | rfl | rfl | rfl | rfl | rfl
    · exact h3 _ (List.mem_of_getElem? (i := 5) rfl) i hi
    · exact h3 _ (List.mem_of_getElem? (i := 4) rfl) i hi
    · exact h3 _ (List.mem_of_getElem? (i := 3) rfl) i hi
    · exact h3 _ (List.mem_of_getElem? (i := 2) rfl) i hi
    · exact h3 _ (List.mem_of_getElem? (i := 1) rfl) i hi
    · exact h3 _ (List.mem_of_getElem? (i := 0) rfl) i hi
  have hz : ∀ k, pvBy 0 k = fun _ => 0 := fun k => by
    funext j
    simp [pvBy]
  refine ⟨⟨h1.1, h1.2.1, fun k hk => ⟨h1.2.2 k hk, fun j hj => hne k (by omega) j hj⟩⟩, fun k hk => ?_, h2 _ (List.mem_of_getElem? (i := 0) rfl), fun a b ha hb hab => ?_, hA⟩
  · rw [hz]
    rcases (show k = 0 ∨ k = 1 ∨ k = 2 ∨ k = 3 ∨ k = 4 by omega) with rfl | rfl | rfl | rfl | rfl
    · exact h2 _ (List.mem_of_getElem? (i := 5) rfl)
    · exact h2 _ (List.mem_of_getElem? (i := 4) rfl)
    · exact h2 _ (List.mem_of_getElem? (i := 3) rfl)
    · exact h2 _ (List.mem_of_getElem? (i := 2) rfl)
    · exact h2 _ (List.mem_of_getElem? (i := 1) rfl)
  · simp only [List.pairwise_cons, List.mem_cons, List.not_mem_nil, or_false, forall_eq_or_imp, forall_eq] at h4
    rcases (show a = 0 ∨ a = 1 ∨ a = 2 ∨ a = 3 ∨ a = 4 ∨ a = 5 by omega) with rfl | rfl | rfl | rfl | rfl | rfl <;> rcases (show b = 0 ∨ b = 1 ∨ b = 2 ∨ b = 3 ∨ b = 4 ∨ b = 5 by omega) with rfl | rfl | rfl | rfl | rfl | rfl <;> first | rfl | (exfalso; grind)
abbrev rm_book : Room := { frames := 12, cells := 117689, slots := 706340, locals := 240 }
set_option maxHeartbeats 4000000 in
set_option maxRecDepth 100000 in
/-- book -/
theorem c_L_book (l : Launch) (hl : l.stackTraces = false) (D : va_G) (cD cC cI cZ cL : ClassId) (A : Nat → Prop) (b L0 : Nat) (xs : Nat → Int32) (hbA : ¬ A b) (hL : L0 ≤ 260) (at0 : Nat) (hat : at0 ≤ 430) : Met l yL_book (.code yL_book cL_book 12 (some .boolean) :: pgWd) rm_book (pvPc D (pgTys cD cC cI cZ cL) A b L0 xs (fun _ => True) [.ref b, .int (nI at0)]) (va_Qi (fun (r : Int32) (_ : Unit) => r = 1) (fun _ _ => True) A) rm_book.cells rm_book.slots A := by
  refine pv_enterS (WdP := fun (_ : Unit) (_ : Heap) => True) (own := RL) (by decide) rfl (Nat.le_of_ble_eq_true rfl) (fun p e s m args below meth cc9 Q B hX hbl hret => ?_)
  refine j_new B (ci := 2) (fs := [.null, .null, .int 0, .int 0, .int 0, .int 0, .int 0]) pgX2 tyX2 tyX2_ok q_14 q_15 q_1 rfl (fun j hj => by rcases (show j = 0 ∨ j = 1 ∨ j = 2 ∨ j = 3 ∨ j = 4 ∨ j = 5 ∨ j = 6 by omega) with rfl | rfl | rfl | rfl | rfl | rfl | rfl <;> rfl) (Nat.le_of_ble_eq_true rfl) (Nat.le_of_ble_eq_true rfl) dL_book_0 (fun qx hAx => ?_)
  refine j_dup B dL_book_3 rfl ?_
  refine j_cIv B (S := Nat → Nat) (b := qx) 0 [] (WdC' := fun u => pgR D cD cC A pgS0 0 u) (fun u => pvG D cD cC A u []) (c_X2_init l D cD cC cI cZ cL A qx hAx) q_16 q_17 q_1 q_18 rfl hdX2_init rfl ⟨Nat.le_of_ble_eq_true rfl, Nat.le_of_ble_eq_true rfl⟩ (Nat.le_of_ble_eq_true rfl) dL_book_4 rfl ⟨Nat.le_of_ble_eq_true rfl, Nat.le_of_ble_eq_true rfl⟩ (fun _ h => h) (fun _ _ _ _ h => h) (fun H h => by
    obtain ⟨H0, -, -, -, -, hx⟩ := h
    exact hx) (fun H H1 u h h1 _ _ => pvG.start h1) (fun u hu => ?_)
  subst hu
  refine j_astore_n B (L' := [(2, .ref (u 0)), (0, .ref b), (1, .int (nI at0))]) dL_book_7 rfl (by decide) rfl ?_
  refine j_iconst B (v := 5) dL_book_8 (by decide) ?_
  refine j_newa B (atype := .int) (N := 5) (a0 := (5, .inl (fun _ => 0))) (ty := .int) rfl q_154 2 rfl (fun h => h) (fun cA => rfl) (by decide) (by decide) (Nat.le_of_ble_eq_true rfl) (Nat.le_of_ble_eq_true rfl) (Nat.le_of_ble_eq_true rfl) dL_book_9 (fun q0 hA0 => ?_)
  refine j_world (Wd' := pvG D cD cC A u [(q0, .inl (cI, 5, .inl (fun _ => 0)))]) (fun H h => pvG.cons h) ?_
  refine j_astore_n B (L' := [(3, .ref q0), (2, .ref (u 0)), (0, .ref b), (1, .int (nI at0))]) dL_book_11 rfl (by decide) rfl ?_
  refine j_bipush B (v := 60) dL_book_12 (by decide) ?_
  refine j_newa B (atype := .int) (N := 60) (a0 := (60, .inl (fun _ => 0))) (ty := .int) rfl q_154 2 rfl (fun h => h) (fun cA => rfl) (by decide) (by decide) (Nat.le_of_ble_eq_true rfl) (Nat.le_of_ble_eq_true rfl) (Nat.le_of_ble_eq_true rfl) dL_book_14 (fun q1 hA1 => ?_)
  refine j_world (Wd' := pvG D cD cC A u [(q1, .inl (cI, 60, .inl (fun _ => 0))), (q0, .inl (cI, 5, .inl (fun _ => 0)))]) (fun H h => pvG.cons h) ?_
  refine j_astore B (L' := [(4, .ref q1), (3, .ref q0), (2, .ref (u 0)), (0, .ref b), (1, .int (nI at0))]) dL_book_16 (by decide) rfl ?_
  refine j_bipush B (v := 60) dL_book_18 (by decide) ?_
  refine j_newa B (atype := .int) (N := 60) (a0 := (60, .inl (fun _ => 0))) (ty := .int) rfl q_154 2 rfl (fun h => h) (fun cA => rfl) (by decide) (by decide) (Nat.le_of_ble_eq_true rfl) (Nat.le_of_ble_eq_true rfl) (Nat.le_of_ble_eq_true rfl) dL_book_20 (fun q2 hA2 => ?_)
  refine j_world (Wd' := pvG D cD cC A u [(q2, .inl (cI, 60, .inl (fun _ => 0))), (q1, .inl (cI, 60, .inl (fun _ => 0))), (q0, .inl (cI, 5, .inl (fun _ => 0)))]) (fun H h => pvG.cons h) ?_
  refine j_astore B (L' := [(5, .ref q2), (4, .ref q1), (3, .ref q0), (2, .ref (u 0)), (0, .ref b), (1, .int (nI at0))]) dL_book_22 (by decide) rfl ?_
  refine j_bipush B (v := 10) dL_book_24 (by decide) ?_
  refine j_newa B (atype := .int) (N := 10) (a0 := (10, .inl (fun _ => 0))) (ty := .int) rfl q_154 2 rfl (fun h => h) (fun cA => rfl) (by decide) (by decide) (Nat.le_of_ble_eq_true rfl) (Nat.le_of_ble_eq_true rfl) (Nat.le_of_ble_eq_true rfl) dL_book_26 (fun q3 hA3 => ?_)
  refine j_world (Wd' := pvG D cD cC A u [(q3, .inl (cI, 10, .inl (fun _ => 0))), (q2, .inl (cI, 60, .inl (fun _ => 0))), (q1, .inl (cI, 60, .inl (fun _ => 0))), (q0, .inl (cI, 5, .inl (fun _ => 0)))]) (fun H h => pvG.cons h) ?_
  refine j_astore B (L' := [(6, .ref q3), (5, .ref q2), (4, .ref q1), (3, .ref q0), (2, .ref (u 0)), (0, .ref b), (1, .int (nI at0))]) dL_book_28 (by decide) rfl ?_
  refine j_bipush B (v := 60) dL_book_30 (by decide) ?_
  refine j_newa B (atype := .int) (N := 60) (a0 := (60, .inl (fun _ => 0))) (ty := .int) rfl q_154 2 rfl (fun h => h) (fun cA => rfl) (by decide) (by decide) (Nat.le_of_ble_eq_true rfl) (Nat.le_of_ble_eq_true rfl) (Nat.le_of_ble_eq_true rfl) dL_book_32 (fun q4 hA4 => ?_)
  refine j_world (Wd' := pvG D cD cC A u [(q4, .inl (cI, 60, .inl (fun _ => 0))), (q3, .inl (cI, 10, .inl (fun _ => 0))), (q2, .inl (cI, 60, .inl (fun _ => 0))), (q1, .inl (cI, 60, .inl (fun _ => 0))), (q0, .inl (cI, 5, .inl (fun _ => 0)))]) (fun H h => pvG.cons h) ?_
  refine j_astore B (L' := [(7, .ref q4), (6, .ref q3), (5, .ref q2), (4, .ref q1), (3, .ref q0), (2, .ref (u 0)), (0, .ref b), (1, .int (nI at0))]) dL_book_34 (by decide) rfl ?_
  refine j_iconst B (v := 1) dL_book_36 (by decide) ?_
  refine j_newa B (atype := .long) (N := 1) (a0 := (1, .inr (.inl (fun _ => 0)))) (ty := .long) rfl q_155 3 rfl (fun h => h) (fun cA => rfl) (by decide) (by decide) (Nat.le_of_ble_eq_true rfl) (Nat.le_of_ble_eq_true rfl) (Nat.le_of_ble_eq_true rfl) dL_book_37 (fun q5 hA5 => ?_)
  refine j_world (Wd' := pvG D cD cC A u [(q5, .inl (cL, 1, .inr (.inl (fun _ => 0)))), (q4, .inl (cI, 60, .inl (fun _ => 0))), (q3, .inl (cI, 10, .inl (fun _ => 0))), (q2, .inl (cI, 60, .inl (fun _ => 0))), (q1, .inl (cI, 60, .inl (fun _ => 0))), (q0, .inl (cI, 5, .inl (fun _ => 0)))]) (fun H h => pvG.cons h) ?_
  refine j_astore B (L' := [(8, .ref q5), (7, .ref q4), (6, .ref q3), (5, .ref q2), (4, .ref q1), (3, .ref q0), (2, .ref (u 0)), (0, .ref b), (1, .int (nI at0))]) dL_book_39 (by decide) rfl ?_
  obtain ⟨ca, k0, k1, k2, k3, k4, k5⟩ : ∃ ca : Nat → Nat, ca 0 = q0 ∧ ca 1 = q1 ∧ ca 2 = q2 ∧ ca 3 = q3 ∧ ca 4 = q4 ∧ ca 5 = q5 := ⟨fun k => if k = 0 then q0 else if k = 1 then q1 else if k = 2 then q2 else if k = 3 then q3 else if k = 4 then q4 else q5, rfl, rfl, rfl, rfl, rfl, rfl⟩
  subst k0; subst k1; subst k2; subst k3; subst k4; subst k5
  have hAc : ∀ k, k < 6 → A (ca k) := fun k hk => by rcases (show k = 0 ∨ k = 1 ∨ k = 2 ∨ k = 3 ∨ k = 4 ∨ k = 5 by omega) with rfl | rfl | rfl | rfl | rfl | rfl <;> assumption
  refine j_world (Wd' := pvW D cD cC cI cL A pgS0 0 u (pvBy 0) ca (fun _ => 0)) (fun H h => pvG.done h hAc) ?_
  refine j_iconst B (v := 0) dL_book_41 (by decide) ?_
  refine j_istore B (L' := [(9, .int 0), (8, .ref (ca 5)), (7, .ref (ca 4)), (6, .ref (ca 3)), (5, .ref (ca 2)), (4, .ref (ca 1)), (3, .ref (ca 0)), (2, .ref (u 0)), (0, .ref b), (1, .int (nI at0))]) dL_book_42 (by decide) rfl ?_
  refine j_loopC (N := 60) (X := Unit) (fun i => 19 + 0 * i) (fun i => 320 + 0 * i) (fun i x => True) (fun i x => pvW D cD cC cI cL A pgS0 0 u (pvBy i) ca (fun _ => 0)) (fun i x => [(9, .int (nI i)), (8, .ref (ca 5)), (7, .ref (ca 4)), (6, .ref (ca 3)), (5, .ref (ca 2)), (4, .ref (ca 1)), (3, .ref (ca 0)), (2, .ref (u 0)), (0, .ref b), (1, .int (nI at0))]) (fun i x hi hv ih => ?_) 0 () (by omega) trivial
  refine j_iload B dL_book_44 0 rfl ?_
  refine j_bipush B (v := 60) dL_book_46 (by decide) ?_
  refine j_icmp_ge B 63 dL_book_48 (by decide) (fun h1 => ?_) (fun h1 => ?_)
  · have hlt : ¬ i < 60 := fun z => nI_ge z (by omega) h1
    have e60 : i = 60 := by omega
    rw [e60]
    refine j_iconst B (v := 0) dL_book_63 (by decide) ?_
    refine j_istore B (L' := [(9, .int 0), (8, .ref (ca 5)), (7, .ref (ca 4)), (6, .ref (ca 3)), (5, .ref (ca 2)), (4, .ref (ca 1)), (3, .ref (ca 0)), (2, .ref (u 0)), (0, .ref b), (1, .int (nI at0))]) dL_book_64 (by decide) rfl ?_
    obtain ⟨o0, ho0⟩ : ∃ z : Nat, u 0 = z := ⟨_, rfl⟩
    rw [ho0]
    refine j_loopC (N := 70) (X := Nat × (Nat → Nat) × pgSt × pgSt × (Nat → Int64)) (fun i => 19 + 0 * 60 + 1681 * i) (fun i => 320 + 0 * 60 + 10086 * i) (fun i x => x.2.1 0 = o0 ∧ pvI x.1 x.2.2.1 x.2.2.2.1 (x.2.2.2.2 0) i) (fun i x => pvW D cD cC cI cL A x.2.2.1 x.1 x.2.1 x.2.2.2.1 ca x.2.2.2.2) (fun i x => [(9, .int (nI i)), (8, .ref (ca 5)), (7, .ref (ca 4)), (6, .ref (ca 3)), (5, .ref (ca 2)), (4, .ref (ca 1)), (3, .ref (ca 0)), (2, .ref (o0)), (0, .ref b), (1, .int (nI at0))]) (fun i x hi hv ih => ?_) 0 (0, u, pgS0, pvBy 60, fun _ => 0) (by omega) ⟨ho0, pvI_0⟩
    obtain ⟨n, ad, σ, φ, f⟩ := x
    obtain ⟨had, h⟩ := hv
    dsimp only at had h
    have had2 : o0 = ad 0 := had.symm
    clear ho0 had
    subst had2
    refine j_world (Wd' := pvW D cD cC cI cL A σ n ad φ ca f) (fun H h => h) ?_
    clear hlt h1 e60
    refine j_iload B dL_book_66 0 rfl ?_
    refine j_bipush B (v := 70) dL_book_68 (by decide) ?_
    refine j_icmp_ge B 168 dL_book_70 (by decide) (fun h1 => ?_) (fun h1 => ?_)
    · refine j_iconst B (v := 1) dL_book_168 (by decide) ?_
      refine j_world (Wd' := fun _ => True) (fun _ _ => trivial) ?_
      exact hret 169 _ 1 () (19 + 0 * 60 + 1681 * i + 0) (320 + 0 * 60 + 10086 * i + 0) dL_book_169 rfl (show _ ≤ 117689 by omega) (show _ ≤ 706340 by omega) rfl
    · have hlt : i < 70 := Nat.lt_of_not_le (fun z => h1 (nI_le (a := 70) z (by omega)))
      refine j_aload_n B dL_book_73 8 rfl rfl ?_
      refine j_iload_n B dL_book_74 9 rfl rfl ?_
      refine j_iconst B (v := 3) dL_book_75 (by decide) ?_
      refine j_iload B dL_book_76 0 rfl ?_
      refine j_mulv B (nI (3 * i)) (pk_mul 3 i) dL_book_78 ?_
      refine j_addv B (nI (at0 + 3 * i)) (nI_add _ _) dL_book_79 ?_
      refine j_iconst B (v := 1) dL_book_80 (by decide) ?_
      refine j_addv B (nI ((at0 + 3 * i) + 1)) (nI_add _ _) dL_book_81 ?_
      refine j_ldc B (v := 1073741824) q_69 dL_book_82 ?_
      refine j_lawS B hX hbl hbA 3 [.ref b, .int (nI ((at0 + 3 * i) + 1)), .int (nI 1073741824)] (c_L_draw l D (pgTys cD cC cI cZ cL) A b L0 xs hbA hL (pvW D cD cC cI cL A σ n ad φ ca f) ((at0 + 3 * i) + 1) 1073741824 (by omega) (by omega) (by omega)) q_70 q_71 q_0 q_72 hdL_draw rfl ⟨Nat.le_of_ble_eq_true rfl, Nat.le_of_ble_eq_true rfl⟩ (Nat.le_of_ble_eq_true rfl) dL_book_84 rfl (19 + 0 * 60 + 1681 * i + 0) (320 + 0 * 60 + 10086 * i + 0) ⟨by show _ + 0 ≤ _; omega, by show _ + 0 ≤ _; omega⟩ ⟨(show _ ≤ 117689 by omega), (show _ ≤ 706340 by omega)⟩ (fun r2 a3 h4 => ?_)
      rw [h4.1]
      refine j_istore B (L' := [(10, .int (nI a3)), (9, .int (nI i)), (8, .ref (ca 5)), (7, .ref (ca 4)), (6, .ref (ca 3)), (5, .ref (ca 2)), (4, .ref (ca 1)), (3, .ref (ca 0)), (2, .ref (ad 0)), (0, .ref b), (1, .int (nI at0))]) dL_book_87 (by decide) rfl ?_
      refine j_aload_n B dL_book_89 9 rfl rfl ?_
      refine j_iload_n B dL_book_90 10 rfl rfl ?_
      refine j_iconst B (v := 3) dL_book_91 (by decide) ?_
      refine j_iload B dL_book_92 1 rfl ?_
      refine j_mulv B (nI (3 * i)) (pk_mul 3 i) dL_book_94 ?_
      refine j_addv B (nI (at0 + 3 * i)) (nI_add _ _) dL_book_95 ?_
      refine j_iconst B (v := 2) dL_book_96 (by decide) ?_
      refine j_addv B (nI ((at0 + 3 * i) + 2)) (nI_add _ _) dL_book_97 ?_
      refine j_ldc B (v := 1073741824) q_69 dL_book_98 ?_
      refine j_lawS B hX hbl hbA 3 [.ref b, .int (nI ((at0 + 3 * i) + 2)), .int (nI 1073741824)] (c_L_draw l D (pgTys cD cC cI cZ cL) A b L0 xs hbA hL (pvW D cD cC cI cL A σ n ad φ ca f) ((at0 + 3 * i) + 2) 1073741824 (by omega) (by omega) (by omega)) q_70 q_71 q_0 q_72 hdL_draw rfl ⟨Nat.le_of_ble_eq_true rfl, Nat.le_of_ble_eq_true rfl⟩ (Nat.le_of_ble_eq_true rfl) dL_book_100 rfl (19 + 0 * 60 + 1681 * i + 0) (320 + 0 * 60 + 10086 * i + 0) ⟨by show _ + 0 ≤ _; omega, by show _ + 0 ≤ _; omega⟩ ⟨(show _ ≤ 117689 by omega), (show _ ≤ 706340 by omega)⟩ (fun r5 a6 h7 => ?_)
      rw [h7.1]
      refine j_istore B (L' := [(11, .int (nI a6)), (10, .int (nI a3)), (9, .int (nI i)), (8, .ref (ca 5)), (7, .ref (ca 4)), (6, .ref (ca 3)), (5, .ref (ca 2)), (4, .ref (ca 1)), (3, .ref (ca 0)), (2, .ref (ad 0)), (0, .ref b), (1, .int (nI at0))]) dL_book_103 (by decide) rfl ?_
      refine j_aload_n B dL_book_105 9 rfl rfl ?_
      refine j_iload B dL_book_106 2 rfl ?_
      refine j_bipush B (v := 6) dL_book_108 (by decide) ?_
      refine j_icmp_ge B 117 dL_book_110 (by decide) (fun h8 => ?_) (fun h8 => ?_)
      · refine j_aload_n B dL_book_117 10 rfl rfl ?_
        refine j_iload_n B dL_book_118 11 rfl rfl ?_
        refine j_iconst B (v := 3) dL_book_119 (by decide) ?_
        refine j_iload B dL_book_120 2 rfl ?_
        refine j_mulv B (nI (3 * i)) (pk_mul 3 i) dL_book_122 ?_
        refine j_addv B (nI (at0 + 3 * i)) (nI_add _ _) dL_book_123 ?_
        refine j_bipush B (v := 25) dL_book_124 (by decide) ?_
        refine j_lawS B hX hbl hbA 3 [.ref b, .int (nI (at0 + 3 * i)), .int (nI 25)] (c_L_draw l D (pgTys cD cC cI cZ cL) A b L0 xs hbA hL (pvW D cD cC cI cL A σ n ad φ ca f) (at0 + 3 * i) 25 (by omega) (by omega) (by omega)) q_70 q_71 q_0 q_72 hdL_draw rfl ⟨Nat.le_of_ble_eq_true rfl, Nat.le_of_ble_eq_true rfl⟩ (Nat.le_of_ble_eq_true rfl) dL_book_126 rfl (19 + 0 * 60 + 1681 * i + 0) (320 + 0 * 60 + 10086 * i + 0) ⟨by show _ + 0 ≤ _; omega, by show _ + 0 ≤ _; omega⟩ ⟨(show _ ≤ 117689 by omega), (show _ ≤ 706340 by omega)⟩ (fun r9 a10 h11 => ?_)
        rw [h11.1]
        refine j_iload B dL_book_129 1 rfl ?_
        refine j_iload B dL_book_131 0 rfl ?_
        refine j_aload_n B dL_book_133 8 rfl rfl ?_
        refine j_aload B dL_book_134 7 rfl ?_
        refine j_aload B dL_book_136 6 rfl ?_
        refine j_aload B dL_book_138 5 rfl ?_
        refine j_aload B dL_book_140 4 rfl ?_
        refine j_aload B dL_book_142 3 rfl ?_
        refine j_lawI B 10 [.ref (ad 0), .int (nI a10), .int (nI a3), .int (nI a6), .ref (ca 0), .ref (ca 1), .ref (ca 2), .ref (ca 3), .ref (ca 4), .ref (ca 5)] (c_L_step l hl D cD cC cI cZ cL A σ φ n ad ca f i (by omega) h a10 a3 a6 h4.2 h7.2) q_76 q_77 q_0 q_78 hdL_step rfl ⟨Nat.le_of_ble_eq_true rfl, Nat.le_of_ble_eq_true rfl⟩ (Nat.le_of_ble_eq_true rfl) dL_book_144 rfl (19 + 0 * 60 + 1681 * i + 1061) (320 + 0 * 60 + 10086 * i + 6366) ⟨by show _ + 1061 ≤ _; omega, by show _ + 6366 ≤ _; omega⟩ ⟨(show _ ≤ 117689 by omega), (show _ ≤ 706340 by omega)⟩ (fun r1 u1 hr1 => ?_)
        obtain ⟨n1, ad1, σ1, φ1, f1⟩ := u1
        obtain ⟨hr2, had1, hI1⟩ := hr1
        dsimp only at had1 hI1
        rw [hr2, ← had1]
        refine j_world (Wd' := pvW D cD cC cI cL A σ1 n1 ad1 φ1 ca f1) (fun H h => h) ?_
        refine j_if_eq B 160 dL_book_147 (by decide) (fun h12 => absurd h12 (by decide)) (fun h12 => ?_)
        refine j_aload_n B dL_book_150 9 rfl rfl ?_
        refine j_aload_n B dL_book_151 8 rfl rfl ?_
        refine j_aload B dL_book_152 3 rfl ?_
        refine j_lawI B 3 [.ref (ad1 0), .ref (ca 0), .ref (ca 5)] (c_L_isBook l hl D cD cC cI cZ cL A σ1 φ1 n1 ad1 ca f1 (i + 1) (by omega) hI1) q_454 q_455 q_0 q_456 hdL_isBook rfl ⟨Nat.le_of_ble_eq_true rfl, Nat.le_of_ble_eq_true rfl⟩ (Nat.le_of_ble_eq_true rfl) dL_book_154 rfl (19 + 0 * 60 + 1681 * i + 1681) (320 + 0 * 60 + 10086 * i + 10086) ⟨by show _ + 620 ≤ _; omega, by show _ + 3720 ≤ _; omega⟩ ⟨(show _ ≤ 117689 by omega), (show _ ≤ 706340 by omega)⟩ (fun r2 _ hr3 => ?_)
        rw [hr3]
        refine j_if_ne B 162 dL_book_157 (by decide) (fun h13 => ?_) (fun h13 => absurd h13 (by decide))
        refine j_iinc B (v := nI (i + 1)) (L' := [(9, .int (nI (i + 1))), (11, .int (nI a6)), (10, .int (nI a3)), (8, .ref (ca 5)), (7, .ref (ca 4)), (6, .ref (ca 3)), (5, .ref (ca 2)), (4, .ref (ca 1)), (3, .ref (ca 0)), (2, .ref (ad1 0)), (0, .ref b), (1, .int (nI at0))]) dL_book_162 2 rfl (nI_add _ _) (by decide) rfl ?_
        rw [had1]
        refine j_goto B 66 dL_book_165 (by decide) ?_
        refine j_locals (L' := [(9, .int (nI (i + 1))), (8, .ref (ca 5)), (7, .ref (ca 4)), (6, .ref (ca 3)), (5, .ref (ca 2)), (4, .ref (ca 1)), (3, .ref (ca 0)), (2, .ref (ad 0)), (0, .ref b), (1, .int (nI at0))]) [0, 3, 4, 5, 6, 7, 8, 9, 10, 11] rfl ?_
        refine j_widen (k := 19 + 0 * 60 + 1681 * (i + 1)) (n := 320 + 0 * 60 + 10086 * (i + 1)) (by omega) (by omega) ?_
        exact ih hlt (n1, ad1, σ1, φ1, f1) (⟨had1, hI1⟩)
      · refine j_iconst B (v := 0) dL_book_113 (by decide) ?_
        refine j_goto B 129 dL_book_114 (by decide) ?_
        refine j_iload B dL_book_129 1 rfl ?_
        refine j_iload B dL_book_131 0 rfl ?_
        refine j_aload_n B dL_book_133 8 rfl rfl ?_
        refine j_aload B dL_book_134 7 rfl ?_
        refine j_aload B dL_book_136 6 rfl ?_
        refine j_aload B dL_book_138 5 rfl ?_
        refine j_aload B dL_book_140 4 rfl ?_
        refine j_aload B dL_book_142 3 rfl ?_
        refine j_lawI B 10 [.ref (ad 0), .int (nI 0), .int (nI a3), .int (nI a6), .ref (ca 0), .ref (ca 1), .ref (ca 2), .ref (ca 3), .ref (ca 4), .ref (ca 5)] (c_L_step l hl D cD cC cI cZ cL A σ φ n ad ca f i (by omega) h 0 a3 a6 h4.2 h7.2) q_76 q_77 q_0 q_78 hdL_step rfl ⟨Nat.le_of_ble_eq_true rfl, Nat.le_of_ble_eq_true rfl⟩ (Nat.le_of_ble_eq_true rfl) dL_book_144 rfl (19 + 0 * 60 + 1681 * i + 1061) (320 + 0 * 60 + 10086 * i + 6366) ⟨by show _ + 1061 ≤ _; omega, by show _ + 6366 ≤ _; omega⟩ ⟨(show _ ≤ 117689 by omega), (show _ ≤ 706340 by omega)⟩ (fun r1 u1 hr1 => ?_)
        obtain ⟨n1, ad1, σ1, φ1, f1⟩ := u1
        obtain ⟨hr2, had1, hI1⟩ := hr1
        dsimp only at had1 hI1
        rw [hr2, ← had1]
        refine j_world (Wd' := pvW D cD cC cI cL A σ1 n1 ad1 φ1 ca f1) (fun H h => h) ?_
        refine j_if_eq B 160 dL_book_147 (by decide) (fun h14 => absurd h14 (by decide)) (fun h14 => ?_)
        refine j_aload_n B dL_book_150 9 rfl rfl ?_
        refine j_aload_n B dL_book_151 8 rfl rfl ?_
        refine j_aload B dL_book_152 3 rfl ?_
        refine j_lawI B 3 [.ref (ad1 0), .ref (ca 0), .ref (ca 5)] (c_L_isBook l hl D cD cC cI cZ cL A σ1 φ1 n1 ad1 ca f1 (i + 1) (by omega) hI1) q_454 q_455 q_0 q_456 hdL_isBook rfl ⟨Nat.le_of_ble_eq_true rfl, Nat.le_of_ble_eq_true rfl⟩ (Nat.le_of_ble_eq_true rfl) dL_book_154 rfl (19 + 0 * 60 + 1681 * i + 1681) (320 + 0 * 60 + 10086 * i + 10086) ⟨by show _ + 620 ≤ _; omega, by show _ + 3720 ≤ _; omega⟩ ⟨(show _ ≤ 117689 by omega), (show _ ≤ 706340 by omega)⟩ (fun r2 _ hr3 => ?_)
        rw [hr3]
        refine j_if_ne B 162 dL_book_157 (by decide) (fun h15 => ?_) (fun h15 => absurd h15 (by decide))
        refine j_iinc B (v := nI (i + 1)) (L' := [(9, .int (nI (i + 1))), (11, .int (nI a6)), (10, .int (nI a3)), (8, .ref (ca 5)), (7, .ref (ca 4)), (6, .ref (ca 3)), (5, .ref (ca 2)), (4, .ref (ca 1)), (3, .ref (ca 0)), (2, .ref (ad1 0)), (0, .ref b), (1, .int (nI at0))]) dL_book_162 2 rfl (nI_add _ _) (by decide) rfl ?_
        rw [had1]
        refine j_goto B 66 dL_book_165 (by decide) ?_
        refine j_locals (L' := [(9, .int (nI (i + 1))), (8, .ref (ca 5)), (7, .ref (ca 4)), (6, .ref (ca 3)), (5, .ref (ca 2)), (4, .ref (ca 1)), (3, .ref (ca 0)), (2, .ref (ad 0)), (0, .ref b), (1, .int (nI at0))]) [0, 3, 4, 5, 6, 7, 8, 9, 10, 11] rfl ?_
        refine j_widen (k := 19 + 0 * 60 + 1681 * (i + 1)) (n := 320 + 0 * 60 + 10086 * (i + 1)) (by omega) (by omega) ?_
        exact ih hlt (n1, ad1, σ1, φ1, f1) (⟨had1, hI1⟩)
  · have hlt : i < 60 := Nat.lt_of_not_le (fun z => h1 (nI_le (a := 60) z (by omega)))
    refine j_aload B dL_book_51 2 rfl ?_
    refine j_iload B dL_book_53 0 rfl ?_
    refine j_iconst B (v := (-1)) dL_book_55 (by decide) ?_
    refine j_pst B (k := 4) (j := i) (by omega) rfl (show i < 60 by omega) dL_book_56 ?_
    refine j_world (Wd' := pvW D cD cC cI cL A pgS0 0 u (pvBy (i + 1)) ca (fun _ => 0)) (fun H h => h.eqF pvBy_s) ?_
    refine j_iinc B (v := nI (i + 1)) (L' := [(9, .int (nI (i + 1))), (8, .ref (ca 5)), (7, .ref (ca 4)), (6, .ref (ca 3)), (5, .ref (ca 2)), (4, .ref (ca 1)), (3, .ref (ca 0)), (2, .ref (u 0)), (0, .ref b), (1, .int (nI at0))]) dL_book_57 0 rfl (nI_add _ _) (by decide) rfl ?_
    refine j_goto B 44 dL_book_60 (by decide) ?_
    exact ih hlt () trivial
