section PGSC
variable {σ : pgSt}
theorem sc_bring (σ : pgSt) (kind secr keeper : Int32) : ((sp_bring σ kind secr keeper).1 = 0 ∨ (sp_bring σ kind secr keeper).1 = 1 ∨ (sp_bring σ kind secr keeper).1 = 2 ∨ (sp_bring σ kind secr keeper).1 = 3) ∧ ((sp_bring σ kind secr keeper).1 ≠ 0 → (sp_bring σ kind secr keeper).2.2 = σ) := by
  by_cases c1 : pgIsK keeper
  case neg =>
    rw [show sp_bring σ kind secr keeper = (1, 0, σ) from if_pos c1]
    exact ⟨Or.inr (Or.inl rfl), fun _ => rfl⟩
  by_cases c2 : 0 ≤ kind ∧ kind < 3 ∧ 0 ≤ secr ∧ secr < 4
  case neg =>
    rw [show sp_bring σ kind secr keeper = (2, 0, σ) from (if_neg (fun z => z c1)).trans (if_pos c2)]
    exact ⟨Or.inr (Or.inr (Or.inl rfl)), fun _ => rfl⟩
  by_cases hs : σ 13 0 < 60
  case neg =>
    rw [show sp_bring σ kind secr keeper = (3, 0, σ) from (if_neg (fun z => z c1)).trans ((if_neg (fun z => z c2)).trans (if_pos hs))]
    exact ⟨Or.inr (Or.inr (Or.inr rfl)), fun _ => rfl⟩
  rw [show sp_bring σ kind secr keeper = _ from (if_neg (fun z => z c1)).trans ((if_neg (fun z => z c2)).trans (if_neg (fun z => z hs)))]
  exact ⟨Or.inl rfl, fun h => absurd rfl h⟩
theorem sc_offer (σ : pgSt) (d to : Int32) : ((sp_offer σ d to).1 = 0 ∨ (sp_offer σ d to).1 = 1 ∨ (sp_offer σ d to).1 = 2 ∨ (sp_offer σ d to).1 = 3) ∧ ((sp_offer σ d to).1 ≠ 0 → (sp_offer σ d to).2.2 = σ) := by
  unfold sp_offer
  (repeat' split) <;> first | exact ⟨by simp, fun _ => rfl⟩ | exact ⟨by simp, fun h => absurd rfl h⟩
theorem sc_answer (σ : pgSt) (d t : Int32) : ((sp_answer σ d t).1 = 0 ∨ (sp_answer σ d t).1 = 1 ∨ (sp_answer σ d t).1 = 3) ∧ ((sp_answer σ d t).1 ≠ 0 → (sp_answer σ d t).2.2 = σ) := by
  unfold sp_answer
  (repeat' split) <;> first | exact ⟨by simp, fun _ => rfl⟩ | exact ⟨by simp, fun h => absurd rfl h⟩
theorem sc_pack (σ : pgSt) (d c : Int32) : ((sp_pack σ d c).1 = 0 ∨ (sp_pack σ d c).1 = 1 ∨ (sp_pack σ d c).1 = 3) ∧ ((sp_pack σ d c).1 ≠ 0 → (sp_pack σ d c).2.2 = σ) := by
  unfold sp_pack
  (repeat' split) <;> first | exact ⟨by simp, fun _ => rfl⟩ | exact ⟨by simp, fun h => absurd rfl h⟩
theorem sc_unpack (σ : pgSt) (d : Int32) : ((sp_unpack σ d).1 = 0 ∨ (sp_unpack σ d).1 = 1 ∨ (sp_unpack σ d).1 = 3) ∧ ((sp_unpack σ d).1 ≠ 0 → (sp_unpack σ d).2.2 = σ) := by
  unfold sp_unpack
  (repeat' split) <;> first | exact ⟨by simp, fun _ => rfl⟩ | exact ⟨by simp, fun h => absurd rfl h⟩
theorem sc_seal (σ : pgSt) (c : Int32) : ((sp_seal σ c).1 = 0 ∨ (sp_seal σ c).1 = 1 ∨ (sp_seal σ c).1 = 3) ∧ ((sp_seal σ c).1 ≠ 0 → (sp_seal σ c).2.2 = σ) := by
  unfold sp_seal
  (repeat' split) <;> first | exact ⟨by simp, fun _ => rfl⟩ | exact ⟨by simp, fun h => absurd rfl h⟩
theorem sc_open (σ : pgSt) (c k : Int32) : ((sp_open σ c k).1 = 0 ∨ (sp_open σ c k).1 = 1 ∨ (sp_open σ c k).1 = 2 ∨ (sp_open σ c k).1 = 3) ∧ ((sp_open σ c k).1 ≠ 0 → (sp_open σ c k).2.2 = σ) := by
  unfold sp_open
  (repeat' split) <;> first | exact ⟨by simp, fun _ => rfl⟩ | exact ⟨by simp, fun h => absurd rfl h⟩
theorem sc_carry (σ : pgSt) (c to : Int32) : ((sp_carry σ c to).1 = 0 ∨ (sp_carry σ c to).1 = 1 ∨ (sp_carry σ c to).1 = 2 ∨ (sp_carry σ c to).1 = 3) ∧ ((sp_carry σ c to).1 ≠ 0 → (sp_carry σ c to).2.2 = σ) := by
  unfold sp_carry
  (repeat' split) <;> first | exact ⟨by simp, fun _ => rfl⟩ | exact ⟨by simp, fun h => absurd rfl h⟩
theorem sc_wipe (σ : pgSt) (d way w : Int32) : ((sp_wipe σ d way w).1 = 0 ∨ (sp_wipe σ d way w).1 = 1 ∨ (sp_wipe σ d way w).1 = 2 ∨ (sp_wipe σ d way w).1 = 3) ∧ ((sp_wipe σ d way w).1 ≠ 0 → (sp_wipe σ d way w).2.2 = σ) := by
  unfold sp_wipe
  (repeat' split) <;> first | exact ⟨by simp, fun _ => rfl⟩ | exact ⟨by simp, fun h => absurd rfl h⟩
theorem sc_smash (σ : pgSt) (d w : Int32) : ((sp_smash σ d w).1 = 0 ∨ (sp_smash σ d w).1 = 1 ∨ (sp_smash σ d w).1 = 2 ∨ (sp_smash σ d w).1 = 3) ∧ ((sp_smash σ d w).1 ≠ 0 → (sp_smash σ d w).2.2 = σ) := by
  unfold sp_smash
  (repeat' split) <;> first | exact ⟨by simp, fun _ => rfl⟩ | exact ⟨by simp, fun h => absurd rfl h⟩
theorem sc_check (σ : pgSt) (d w g : Int32) : ((sp_check σ d w g).1 = 0 ∨ (sp_check σ d w g).1 = 1 ∨ (sp_check σ d w g).1 = 2 ∨ (sp_check σ d w g).1 = 3) ∧ ((sp_check σ d w g).1 ≠ 0 → (sp_check σ d w g).2.2 = σ) := by
  unfold sp_check
  (repeat' split) <;> first | exact ⟨by simp, fun _ => rfl⟩ | exact ⟨by simp, fun h => absurd rfl h⟩
theorem sc_lose (σ : pgSt) (d : Int32) : ((sp_lose σ d).1 = 0 ∨ (sp_lose σ d).1 = 1 ∨ (sp_lose σ d).1 = 3) ∧ ((sp_lose σ d).1 ≠ 0 → (sp_lose σ d).2.2 = σ) := by
  unfold sp_lose
  (repeat' split) <;> first | exact ⟨by simp, fun _ => rfl⟩ | exact ⟨by simp, fun h => absurd rfl h⟩
theorem sc_find (σ : pgSt) (d : Int32) : ((sp_find σ d).1 = 0 ∨ (sp_find σ d).1 = 1 ∨ (sp_find σ d).1 = 3) ∧ ((sp_find σ d).1 ≠ 0 → (sp_find σ d).2.2 = σ) := by
  unfold sp_find
  (repeat' split) <;> first | exact ⟨by simp, fun _ => rfl⟩ | exact ⟨by simp, fun h => absurd rfl h⟩
theorem sc_certify (σ : pgSt) (k : Int32) : ((sp_certify σ k).1 = 0 ∨ (sp_certify σ k).1 = 1 ∨ (sp_certify σ k).1 = 4) ∧ ((sp_certify σ k).1 ≠ 0 → (sp_certify σ k).2.2 = σ) := by
  unfold sp_certify
  (repeat' split) <;> first | exact ⟨by simp, fun _ => rfl⟩ | exact ⟨by simp, fun h => absurd rfl h⟩
theorem sc_askD (σ : pgSt) (d : Int32) (t : Nat) : ((sp_askD σ d t).1 = 0 ∨ (sp_askD σ d t).1 = 1) ∧ ((sp_askD σ d t).1 ≠ 0 → (sp_askD σ d t).2.2 = σ) := by
  unfold sp_askD
  (repeat' split) <;> first | exact ⟨by simp, fun _ => rfl⟩ | exact ⟨by simp, fun h => absurd rfl h⟩
theorem sc_askC (σ : pgSt) (c : Int32) (t : Nat) : ((sp_askC σ c t).1 = 0 ∨ (sp_askC σ c t).1 = 1) ∧ ((sp_askC σ c t).1 ≠ 0 → (sp_askC σ c t).2.2 = σ) := by
  unfold sp_askC
  (repeat' split) <;> first | exact ⟨by simp, fun _ => rfl⟩ | exact ⟨by simp, fun h => absurd rfl h⟩
theorem sc_isDone (σ : pgSt) (d : Int32) : ((sp_isDone σ d).1 = 0 ∨ (sp_isDone σ d).1 = 1) ∧ ((sp_isDone σ d).1 ≠ 0 → (sp_isDone σ d).2.2 = σ) := by
  unfold sp_isDone
  (repeat' split) <;> first | exact ⟨by simp, fun _ => rfl⟩ | exact ⟨by simp, fun h => absurd rfl h⟩
theorem sc_has (σ : pgSt) (k : Int32) : ((sp_has σ k).1 = 0 ∨ (sp_has σ k).1 = 1) ∧ ((sp_has σ k).1 ≠ 0 → (sp_has σ k).2.2 = σ) := by
  unfold sp_has
  (repeat' split) <;> first | exact ⟨by simp, fun _ => rfl⟩ | exact ⟨by simp, fun h => absurd rfl h⟩
theorem sz_isDone {σ : pgSt} {d : Int32} : (sp_isDone σ d).2.1 = 0 ∨ (sp_isDone σ d).2.1 = 1 := by
  unfold sp_isDone
  (repeat' split) <;> simp
theorem ss_askD {σ : pgSt} {d : Int32} {t : Nat} : (sp_askD σ d t).2.2 = σ := by
  unfold sp_askD
  split <;> rfl
theorem ss_askC {σ : pgSt} {c : Int32} {t : Nat} : (sp_askC σ c t).2.2 = σ := by
  unfold sp_askC
  split <;> rfl
theorem ss_isDone {σ : pgSt} {d : Int32} : (sp_isDone σ d).2.2 = σ := by
  unfold sp_isDone
  split <;> rfl
theorem ss_has {σ : pgSt} {k : Int32} : (sp_has σ k).2.2 = σ := by
  unfold sp_has
  split <;> rfl
end PGSC
abbrev rm_asks_0 : Room := { frames := 8, cells := 3, slots := 18, locals := 127 }
set_option maxHeartbeats 4000000 in
set_option maxRecDepth 100000 in
/-- asks: offer -/
theorem c_L_asks_0 (l : Launch) (hl : l.stackTraces = false) (D : va_G) (cD cC cI cZ cL : ClassId) (A : Nat → Prop) (σ φ : pgSt) (n : Nat) (ad ca : Nat → Nat) (f : Nat → Int64) (hG : pgI n σ) (a b e : Int32) (h1 : (sp_offer σ a b).1 ≠ 1) : Met l yL_asks (.codeWith yL_asks cL_asks 6 (some .int) [(0, 194, 195, 56), (0, 194, 200, 58), (0, 194, 205, 60)] :: pgWd) rm_asks_0 (pgPc D (pgTys cD cC cI cZ cL) A (pvW D cD cC cI cL A σ n ad φ ca f) [.ref (ad 0), .int 0, .int a, .int b, .int e]) (va_Qi (fun (r : Int32) (_ : Unit) => r = pvT (sp_offer σ a b)) (fun _ t9 => (pvW D cD cC cI cL A (sp_offer σ a b).2.2 n ad φ ca f) t9.heap) A) rm_asks_0.cells rm_asks_0.slots A := by
  refine pv_enterW (own := RL) (by decide) rfl (Nat.le_of_ble_eq_true rfl) (fun p e9 s m args below meth cc9 Q B ht hret => ?_)
  refine j_iload_n B dL_asks_0 1 rfl rfl ?_
  refine j_if_ne B 13 dL_asks_1 (by decide) (fun h1 => absurd h1 (by decide)) (fun h1 => ?_)
  refine j_aload_n B dL_asks_4 0 rfl rfl ?_
  refine j_iload_n B dL_asks_5 2 rfl rfl ?_
  refine j_iload_n B dL_asks_6 3 rfl rfl ?_
  have hsc := sc_offer σ a b
  refine j_wVi B 2 [.int a, .int b] (Wd' := fun _ => pvW D cD cC cI cL A (sp_offer σ a b).2.2 n ad φ ca f) (WdX' := pvW D cD cC cI cL A σ n ad φ ca f) (c_X2_offer l hl D cD cC cI cZ cL (pvA A ca) σ n ad hG a b) rfl (fun H h => h.x) q_311 q_312 q_313 q_1 q_314 hdX2_offer rfl ⟨Nat.le_of_ble_eq_true rfl, Nat.le_of_ble_eq_true rfl⟩ (Nat.le_of_ble_eq_true rfl) dL_asks_7 rfl ⟨Nat.le_of_ble_eq_true rfl, Nat.le_of_ble_eq_true rfl⟩ (fun _ h => h.1) (fun H h q hq hA => h.new q hq hA) (fun H h => h.1) (fun H H1 u h h2 hz hk => h.cls h2 hk) (fun H H1 h h2 hz hk => h.cls h2 hk) (fun k hk => ?_) (fun r u hp => ?_)
  · obtain ⟨hk1, hk0⟩ := hk
    have hX : (sp_offer σ a b).2.2 = σ := hsc.2 (by rw [hk1]; exact hk0)
    have hcs : k = 2 ∨ k = 3 := by have := hsc.1; omega
    rcases hcs with rfl | rfl
    · refine ⟨200, ⟨[⟨0, 194, 195, 56⟩], ⟨0, 194, 200, 58⟩, [⟨0, 194, 205, 60⟩], pgEA, ht, (List.forall_mem_cons.mpr ⟨Or.inr ⟨by decide, pgES, B.2.2.2.2.1 _ q_308, pgB_nc B (pgEA, pgES) (by decide)⟩, (fun _ h => nomatch h)⟩), by decide, by decide, B.2.2.2.2.1 _ q_309, pgB_nw B (w := .castable pgEA pgEA) (by decide) rfl, rfl⟩, fun q9 => ?_⟩
      refine j_astore B (L' := [(5, .ref q9), (0, .ref (ad 0)), (1, .int 0), (2, .int a), (3, .int b), (4, .int e)]) dL_asks_200 (by decide) rfl ?_
      refine j_bipush B (v := (-9)) dL_asks_202 (by decide) ?_
      refine j_world (Wd' := pvW D cD cC cI cL A (sp_offer σ a b).2.2 n ad φ ca f) (fun H h => by rw [hX]; exact h) ?_
      exact hret 204 _ (-9) () _ _ dL_asks_204 rfl (Nat.le_of_ble_eq_true rfl) (Nat.le_of_ble_eq_true rfl) (by unfold pvT; rw [hk1] <;> rfl)
    · refine ⟨195, ⟨[], ⟨0, 194, 195, 56⟩, [⟨0, 194, 200, 58⟩, ⟨0, 194, 205, 60⟩], pgES, ht, (fun _ h => nomatch h), by decide, by decide, B.2.2.2.2.1 _ q_308, pgB_nw B (w := .castable pgES pgES) (by decide) rfl, rfl⟩, fun q9 => ?_⟩
      refine j_astore B (L' := [(5, .ref q9), (0, .ref (ad 0)), (1, .int 0), (2, .int a), (3, .int b), (4, .int e)]) dL_asks_195 (by decide) rfl ?_
      refine j_bipush B (v := (-8)) dL_asks_197 (by decide) ?_
      refine j_world (Wd' := pvW D cD cC cI cL A (sp_offer σ a b).2.2 n ad φ ca f) (fun H h => by rw [hX]; exact h) ?_
      exact hret 199 _ (-8) () _ _ dL_asks_199 rfl (Nat.le_of_ble_eq_true rfl) (Nat.le_of_ble_eq_true rfl) (by unfold pvT; rw [hk1] <;> rfl)
  · obtain ⟨h0, rfl⟩ := hp
    refine j_goto B 194 dL_asks_10 (by decide) ?_
    exact hret 194 _ _ () _ _ dL_asks_194 rfl (Nat.le_of_ble_eq_true rfl) (Nat.le_of_ble_eq_true rfl) (by unfold pvT; rw [if_pos h0])
abbrev rm_asks_1 : Room := { frames := 8, cells := 2, slots := 12, locals := 128 }
set_option maxHeartbeats 4000000 in
set_option maxRecDepth 100000 in
/-- asks: answer -/
theorem c_L_asks_1 (l : Launch) (hl : l.stackTraces = false) (D : va_G) (cD cC cI cZ cL : ClassId) (A : Nat → Prop) (σ φ : pgSt) (n : Nat) (ad ca : Nat → Nat) (f : Nat → Int64) (hG : pgI n σ) (a b e : Int32) (g : Int32) (hg : 0 < b ∧ g = 1 ∨ ¬ 0 < b ∧ g = 0) (h1 : (sp_answer σ a g).1 ≠ 1) : Met l yL_asks (.codeWith yL_asks cL_asks 6 (some .int) [(0, 194, 195, 56), (0, 194, 200, 58), (0, 194, 205, 60)] :: pgWd) rm_asks_1 (pgPc D (pgTys cD cC cI cZ cL) A (pvW D cD cC cI cL A σ n ad φ ca f) [.ref (ad 0), .int 1, .int a, .int b, .int e]) (va_Qi (fun (r : Int32) (_ : Unit) => r = pvT (sp_answer σ a g)) (fun _ t9 => (pvW D cD cC cI cL A (sp_answer σ a g).2.2 n ad φ ca f) t9.heap) A) rm_asks_1.cells rm_asks_1.slots A := by
  refine pv_enterW (own := RL) (by decide) rfl (Nat.le_of_ble_eq_true rfl) (fun p e9 s m args below meth cc9 Q B ht hret => ?_)
  rcases hg with ⟨hb, rfl⟩ | ⟨hb, rfl⟩
  · refine j_iload_n B dL_asks_0 1 rfl rfl ?_
    refine j_if_ne B 13 dL_asks_1 (by decide) (fun h1 => ?_) (fun h1 => absurd h1 (by decide))
    refine j_iload_n B dL_asks_13 1 rfl rfl ?_
    refine j_iconst B (v := 1) dL_asks_14 (by decide) ?_
    refine j_icmp_ne B 35 dL_asks_15 (by decide) (fun h2 => absurd h2 (by decide)) (fun h2 => ?_)
    refine j_aload_n B dL_asks_18 0 rfl rfl ?_
    refine j_iload_n B dL_asks_19 2 rfl rfl ?_
    refine j_iload_n B dL_asks_20 3 rfl rfl ?_
    refine j_if_le B 28 dL_asks_21 (by decide) (fun h3 => absurd hb (Int32.not_lt.mpr h3)) (fun h3 => ?_)
    refine j_iconst B (v := 1) dL_asks_24 (by decide) ?_
    refine j_goto B 29 dL_asks_25 (by decide) ?_
    have hsc := sc_answer σ a 1
    refine j_wVi B 2 [.int a, .int 1] (Wd' := fun _ => pvW D cD cC cI cL A (sp_answer σ a 1).2.2 n ad φ ca f) (WdX' := pvW D cD cC cI cL A σ n ad φ ca f) (c_X2_answer l hl D cD cC cI cZ cL (pvA A ca) σ n ad hG a 1) rfl (fun H h => h.x) q_320 q_321 q_322 q_1 q_323 hdX2_answer rfl ⟨Nat.le_of_ble_eq_true rfl, Nat.le_of_ble_eq_true rfl⟩ (Nat.le_of_ble_eq_true rfl) dL_asks_29 rfl ⟨Nat.le_of_ble_eq_true rfl, Nat.le_of_ble_eq_true rfl⟩ (fun _ h => h.1) (fun H h q hq hA => h.new q hq hA) (fun H h => h.1) (fun H H1 u h h2 hz hk => h.cls h2 hk) (fun H H1 h h2 hz hk => h.cls h2 hk) (fun k hk => ?_) (fun r u hp => ?_)
    · obtain ⟨hk1, hk0⟩ := hk
      have hX : (sp_answer σ a 1).2.2 = σ := hsc.2 (by rw [hk1]; exact hk0)
      have hcs : k = 3 := by have := hsc.1; omega
      rcases hcs with rfl
      · refine ⟨195, ⟨[], ⟨0, 194, 195, 56⟩, [⟨0, 194, 200, 58⟩, ⟨0, 194, 205, 60⟩], pgES, ht, (fun _ h => nomatch h), by decide, by decide, B.2.2.2.2.1 _ q_308, pgB_nw B (w := .castable pgES pgES) (by decide) rfl, rfl⟩, fun q9 => ?_⟩
        refine j_astore B (L' := [(5, .ref q9), (0, .ref (ad 0)), (1, .int 1), (2, .int a), (3, .int b), (4, .int e)]) dL_asks_195 (by decide) rfl ?_
        refine j_bipush B (v := (-8)) dL_asks_197 (by decide) ?_
        refine j_world (Wd' := pvW D cD cC cI cL A (sp_answer σ a 1).2.2 n ad φ ca f) (fun H h => by rw [hX]; exact h) ?_
        exact hret 199 _ (-8) () _ _ dL_asks_199 rfl (Nat.le_of_ble_eq_true rfl) (Nat.le_of_ble_eq_true rfl) (by unfold pvT; rw [hk1] <;> rfl)
    · obtain ⟨h0, rfl⟩ := hp
      refine j_goto B 194 dL_asks_32 (by decide) ?_
      exact hret 194 _ _ () _ _ dL_asks_194 rfl (Nat.le_of_ble_eq_true rfl) (Nat.le_of_ble_eq_true rfl) (by unfold pvT; rw [if_pos h0])
  · refine j_iload_n B dL_asks_0 1 rfl rfl ?_
    refine j_if_ne B 13 dL_asks_1 (by decide) (fun h4 => ?_) (fun h4 => absurd h4 (by decide))
    refine j_iload_n B dL_asks_13 1 rfl rfl ?_
    refine j_iconst B (v := 1) dL_asks_14 (by decide) ?_
    refine j_icmp_ne B 35 dL_asks_15 (by decide) (fun h5 => absurd h5 (by decide)) (fun h5 => ?_)
    refine j_aload_n B dL_asks_18 0 rfl rfl ?_
    refine j_iload_n B dL_asks_19 2 rfl rfl ?_
    refine j_iload_n B dL_asks_20 3 rfl rfl ?_
    refine j_if_le B 28 dL_asks_21 (by decide) (fun h6 => ?_) (fun h6 => absurd (Int32.not_lt.mp hb) h6)
    refine j_iconst B (v := 0) dL_asks_28 (by decide) ?_
    have hsc := sc_answer σ a 0
    refine j_wVi B 2 [.int a, .int 0] (Wd' := fun _ => pvW D cD cC cI cL A (sp_answer σ a 0).2.2 n ad φ ca f) (WdX' := pvW D cD cC cI cL A σ n ad φ ca f) (c_X2_answer l hl D cD cC cI cZ cL (pvA A ca) σ n ad hG a 0) rfl (fun H h => h.x) q_320 q_321 q_322 q_1 q_323 hdX2_answer rfl ⟨Nat.le_of_ble_eq_true rfl, Nat.le_of_ble_eq_true rfl⟩ (Nat.le_of_ble_eq_true rfl) dL_asks_29 rfl ⟨Nat.le_of_ble_eq_true rfl, Nat.le_of_ble_eq_true rfl⟩ (fun _ h => h.1) (fun H h q hq hA => h.new q hq hA) (fun H h => h.1) (fun H H1 u h h2 hz hk => h.cls h2 hk) (fun H H1 h h2 hz hk => h.cls h2 hk) (fun k hk => ?_) (fun r u hp => ?_)
    · obtain ⟨hk1, hk0⟩ := hk
      have hX : (sp_answer σ a 0).2.2 = σ := hsc.2 (by rw [hk1]; exact hk0)
      have hcs : k = 3 := by have := hsc.1; omega
      rcases hcs with rfl
      · refine ⟨195, ⟨[], ⟨0, 194, 195, 56⟩, [⟨0, 194, 200, 58⟩, ⟨0, 194, 205, 60⟩], pgES, ht, (fun _ h => nomatch h), by decide, by decide, B.2.2.2.2.1 _ q_308, pgB_nw B (w := .castable pgES pgES) (by decide) rfl, rfl⟩, fun q9 => ?_⟩
        refine j_astore B (L' := [(5, .ref q9), (0, .ref (ad 0)), (1, .int 1), (2, .int a), (3, .int b), (4, .int e)]) dL_asks_195 (by decide) rfl ?_
        refine j_bipush B (v := (-8)) dL_asks_197 (by decide) ?_
        refine j_world (Wd' := pvW D cD cC cI cL A (sp_answer σ a 0).2.2 n ad φ ca f) (fun H h => by rw [hX]; exact h) ?_
        exact hret 199 _ (-8) () _ _ dL_asks_199 rfl (Nat.le_of_ble_eq_true rfl) (Nat.le_of_ble_eq_true rfl) (by unfold pvT; rw [hk1] <;> rfl)
    · obtain ⟨h0, rfl⟩ := hp
      refine j_goto B 194 dL_asks_32 (by decide) ?_
      exact hret 194 _ _ () _ _ dL_asks_194 rfl (Nat.le_of_ble_eq_true rfl) (Nat.le_of_ble_eq_true rfl) (by unfold pvT; rw [if_pos h0])
abbrev rm_asks_2 : Room := { frames := 8, cells := 4, slots := 24, locals := 128 }
set_option maxHeartbeats 4000000 in
set_option maxRecDepth 100000 in
/-- asks: pack -/
theorem c_L_asks_2 (l : Launch) (hl : l.stackTraces = false) (D : va_G) (cD cC cI cZ cL : ClassId) (A : Nat → Prop) (σ φ : pgSt) (n : Nat) (ad ca : Nat → Nat) (f : Nat → Int64) (hG : pgI n σ) (a b e : Int32) (h1 : (sp_pack σ a b).1 ≠ 1) : Met l yL_asks (.codeWith yL_asks cL_asks 6 (some .int) [(0, 194, 195, 56), (0, 194, 200, 58), (0, 194, 205, 60)] :: pgWd) rm_asks_2 (pgPc D (pgTys cD cC cI cZ cL) A (pvW D cD cC cI cL A σ n ad φ ca f) [.ref (ad 0), .int 2, .int a, .int b, .int e]) (va_Qi (fun (r : Int32) (_ : Unit) => r = pvT (sp_pack σ a b)) (fun _ t9 => (pvW D cD cC cI cL A (sp_pack σ a b).2.2 n ad φ ca f) t9.heap) A) rm_asks_2.cells rm_asks_2.slots A := by
  refine pv_enterW (own := RL) (by decide) rfl (Nat.le_of_ble_eq_true rfl) (fun p e9 s m args below meth cc9 Q B ht hret => ?_)
  refine j_iload_n B dL_asks_0 1 rfl rfl ?_
  refine j_if_ne B 13 dL_asks_1 (by decide) (fun h1 => ?_) (fun h1 => absurd h1 (by decide))
  refine j_iload_n B dL_asks_13 1 rfl rfl ?_
  refine j_iconst B (v := 1) dL_asks_14 (by decide) ?_
  refine j_icmp_ne B 35 dL_asks_15 (by decide) (fun h2 => ?_) (fun h2 => absurd h2 (by decide))
  refine j_iload_n B dL_asks_35 1 rfl rfl ?_
  refine j_iconst B (v := 2) dL_asks_36 (by decide) ?_
  refine j_icmp_ne B 49 dL_asks_37 (by decide) (fun h3 => absurd h3 (by decide)) (fun h3 => ?_)
  refine j_aload_n B dL_asks_40 0 rfl rfl ?_
  refine j_iload_n B dL_asks_41 2 rfl rfl ?_
  refine j_iload_n B dL_asks_42 3 rfl rfl ?_
  have hsc := sc_pack σ a b
  refine j_wVi B 2 [.int a, .int b] (Wd' := fun _ => pvW D cD cC cI cL A (sp_pack σ a b).2.2 n ad φ ca f) (WdX' := pvW D cD cC cI cL A σ n ad φ ca f) (c_X2_pack l hl D cD cC cI cZ cL (pvA A ca) σ n ad hG a b) rfl (fun H h => h.x) q_325 q_326 q_327 q_1 q_328 hdX2_pack rfl ⟨Nat.le_of_ble_eq_true rfl, Nat.le_of_ble_eq_true rfl⟩ (Nat.le_of_ble_eq_true rfl) dL_asks_43 rfl ⟨Nat.le_of_ble_eq_true rfl, Nat.le_of_ble_eq_true rfl⟩ (fun _ h => h.1) (fun H h q hq hA => h.new q hq hA) (fun H h => h.1) (fun H H1 u h h2 hz hk => h.cls h2 hk) (fun H H1 h h2 hz hk => h.cls h2 hk) (fun k hk => ?_) (fun r u hp => ?_)
  · obtain ⟨hk1, hk0⟩ := hk
    have hX : (sp_pack σ a b).2.2 = σ := hsc.2 (by rw [hk1]; exact hk0)
    have hcs : k = 3 := by have := hsc.1; omega
    rcases hcs with rfl
    · refine ⟨195, ⟨[], ⟨0, 194, 195, 56⟩, [⟨0, 194, 200, 58⟩, ⟨0, 194, 205, 60⟩], pgES, ht, (fun _ h => nomatch h), by decide, by decide, B.2.2.2.2.1 _ q_308, pgB_nw B (w := .castable pgES pgES) (by decide) rfl, rfl⟩, fun q9 => ?_⟩
      refine j_astore B (L' := [(5, .ref q9), (0, .ref (ad 0)), (1, .int 2), (2, .int a), (3, .int b), (4, .int e)]) dL_asks_195 (by decide) rfl ?_
      refine j_bipush B (v := (-8)) dL_asks_197 (by decide) ?_
      refine j_world (Wd' := pvW D cD cC cI cL A (sp_pack σ a b).2.2 n ad φ ca f) (fun H h => by rw [hX]; exact h) ?_
      exact hret 199 _ (-8) () _ _ dL_asks_199 rfl (Nat.le_of_ble_eq_true rfl) (Nat.le_of_ble_eq_true rfl) (by unfold pvT; rw [hk1] <;> rfl)
  · obtain ⟨h0, rfl⟩ := hp
    refine j_goto B 194 dL_asks_46 (by decide) ?_
    exact hret 194 _ _ () _ _ dL_asks_194 rfl (Nat.le_of_ble_eq_true rfl) (Nat.le_of_ble_eq_true rfl) (by unfold pvT; rw [if_pos h0])
abbrev rm_asks_3 : Room := { frames := 8, cells := 2, slots := 12, locals := 127 }
set_option maxHeartbeats 4000000 in
set_option maxRecDepth 100000 in
/-- asks: unpack -/
theorem c_L_asks_3 (l : Launch) (hl : l.stackTraces = false) (D : va_G) (cD cC cI cZ cL : ClassId) (A : Nat → Prop) (σ φ : pgSt) (n : Nat) (ad ca : Nat → Nat) (f : Nat → Int64) (hG : pgI n σ) (a b e : Int32) (h1 : (sp_unpack σ a).1 ≠ 1) : Met l yL_asks (.codeWith yL_asks cL_asks 6 (some .int) [(0, 194, 195, 56), (0, 194, 200, 58), (0, 194, 205, 60)] :: pgWd) rm_asks_3 (pgPc D (pgTys cD cC cI cZ cL) A (pvW D cD cC cI cL A σ n ad φ ca f) [.ref (ad 0), .int 3, .int a, .int b, .int e]) (va_Qi (fun (r : Int32) (_ : Unit) => r = pvT (sp_unpack σ a)) (fun _ t9 => (pvW D cD cC cI cL A (sp_unpack σ a).2.2 n ad φ ca f) t9.heap) A) rm_asks_3.cells rm_asks_3.slots A := by
  refine pv_enterW (own := RL) (by decide) rfl (Nat.le_of_ble_eq_true rfl) (fun p e9 s m args below meth cc9 Q B ht hret => ?_)
  refine j_iload_n B dL_asks_0 1 rfl rfl ?_
  refine j_if_ne B 13 dL_asks_1 (by decide) (fun h1 => ?_) (fun h1 => absurd h1 (by decide))
  refine j_iload_n B dL_asks_13 1 rfl rfl ?_
  refine j_iconst B (v := 1) dL_asks_14 (by decide) ?_
  refine j_icmp_ne B 35 dL_asks_15 (by decide) (fun h2 => ?_) (fun h2 => absurd h2 (by decide))
  refine j_iload_n B dL_asks_35 1 rfl rfl ?_
  refine j_iconst B (v := 2) dL_asks_36 (by decide) ?_
  refine j_icmp_ne B 49 dL_asks_37 (by decide) (fun h3 => ?_) (fun h3 => absurd h3 (by decide))
  refine j_iload_n B dL_asks_49 1 rfl rfl ?_
  refine j_iconst B (v := 3) dL_asks_50 (by decide) ?_
  refine j_icmp_ne B 62 dL_asks_51 (by decide) (fun h4 => absurd h4 (by decide)) (fun h4 => ?_)
  refine j_aload_n B dL_asks_54 0 rfl rfl ?_
  refine j_iload_n B dL_asks_55 2 rfl rfl ?_
  have hsc := sc_unpack σ a
  refine j_wVi B 1 [.int a] (Wd' := fun _ => pvW D cD cC cI cL A (sp_unpack σ a).2.2 n ad φ ca f) (WdX' := pvW D cD cC cI cL A σ n ad φ ca f) (c_X2_unpack l hl D cD cC cI cZ cL (pvA A ca) σ n ad hG a) rfl (fun H h => h.x) q_338 q_339 q_340 q_1 q_341 hdX2_unpack rfl ⟨Nat.le_of_ble_eq_true rfl, Nat.le_of_ble_eq_true rfl⟩ (Nat.le_of_ble_eq_true rfl) dL_asks_56 rfl ⟨Nat.le_of_ble_eq_true rfl, Nat.le_of_ble_eq_true rfl⟩ (fun _ h => h.1) (fun H h q hq hA => h.new q hq hA) (fun H h => h.1) (fun H H1 u h h2 hz hk => h.cls h2 hk) (fun H H1 h h2 hz hk => h.cls h2 hk) (fun k hk => ?_) (fun r u hp => ?_)
  · obtain ⟨hk1, hk0⟩ := hk
    have hX : (sp_unpack σ a).2.2 = σ := hsc.2 (by rw [hk1]; exact hk0)
    have hcs : k = 3 := by have := hsc.1; omega
    rcases hcs with rfl
    · refine ⟨195, ⟨[], ⟨0, 194, 195, 56⟩, [⟨0, 194, 200, 58⟩, ⟨0, 194, 205, 60⟩], pgES, ht, (fun _ h => nomatch h), by decide, by decide, B.2.2.2.2.1 _ q_308, pgB_nw B (w := .castable pgES pgES) (by decide) rfl, rfl⟩, fun q9 => ?_⟩
      refine j_astore B (L' := [(5, .ref q9), (0, .ref (ad 0)), (1, .int 3), (2, .int a), (3, .int b), (4, .int e)]) dL_asks_195 (by decide) rfl ?_
      refine j_bipush B (v := (-8)) dL_asks_197 (by decide) ?_
      refine j_world (Wd' := pvW D cD cC cI cL A (sp_unpack σ a).2.2 n ad φ ca f) (fun H h => by rw [hX]; exact h) ?_
      exact hret 199 _ (-8) () _ _ dL_asks_199 rfl (Nat.le_of_ble_eq_true rfl) (Nat.le_of_ble_eq_true rfl) (by unfold pvT; rw [hk1] <;> rfl)
  · obtain ⟨h0, rfl⟩ := hp
    refine j_goto B 194 dL_asks_59 (by decide) ?_
    exact hret 194 _ _ () _ _ dL_asks_194 rfl (Nat.le_of_ble_eq_true rfl) (Nat.le_of_ble_eq_true rfl) (by unfold pvT; rw [if_pos h0])
abbrev rm_asks_4 : Room := { frames := 8, cells := 5, slots := 30, locals := 129 }
set_option maxHeartbeats 4000000 in
set_option maxRecDepth 100000 in
/-- asks: wipe -/
theorem c_L_asks_4 (l : Launch) (hl : l.stackTraces = false) (D : va_G) (cD cC cI cZ cL : ClassId) (A : Nat → Prop) (σ φ : pgSt) (n : Nat) (ad ca : Nat → Nat) (f : Nat → Int64) (hG : pgI n σ) (a b e : Int32) (h1 : (sp_wipe σ a b e).1 ≠ 1) : Met l yL_asks (.codeWith yL_asks cL_asks 6 (some .int) [(0, 194, 195, 56), (0, 194, 200, 58), (0, 194, 205, 60)] :: pgWd) rm_asks_4 (pgPc D (pgTys cD cC cI cZ cL) A (pvW D cD cC cI cL A σ n ad φ ca f) [.ref (ad 0), .int 4, .int a, .int b, .int e]) (va_Qi (fun (r : Int32) (_ : Unit) => r = pvT (sp_wipe σ a b e)) (fun _ t9 => (pvW D cD cC cI cL A (sp_wipe σ a b e).2.2 n ad φ ca f) t9.heap) A) rm_asks_4.cells rm_asks_4.slots A := by
  refine pv_enterW (own := RL) (by decide) rfl (Nat.le_of_ble_eq_true rfl) (fun p e9 s m args below meth cc9 Q B ht hret => ?_)
  refine j_iload_n B dL_asks_0 1 rfl rfl ?_
  refine j_if_ne B 13 dL_asks_1 (by decide) (fun h1 => ?_) (fun h1 => absurd h1 (by decide))
  refine j_iload_n B dL_asks_13 1 rfl rfl ?_
  refine j_iconst B (v := 1) dL_asks_14 (by decide) ?_
  refine j_icmp_ne B 35 dL_asks_15 (by decide) (fun h2 => ?_) (fun h2 => absurd h2 (by decide))
  refine j_iload_n B dL_asks_35 1 rfl rfl ?_
  refine j_iconst B (v := 2) dL_asks_36 (by decide) ?_
  refine j_icmp_ne B 49 dL_asks_37 (by decide) (fun h3 => ?_) (fun h3 => absurd h3 (by decide))
  refine j_iload_n B dL_asks_49 1 rfl rfl ?_
  refine j_iconst B (v := 3) dL_asks_50 (by decide) ?_
  refine j_icmp_ne B 62 dL_asks_51 (by decide) (fun h4 => ?_) (fun h4 => absurd h4 (by decide))
  refine j_iload_n B dL_asks_62 1 rfl rfl ?_
  refine j_iconst B (v := 4) dL_asks_63 (by decide) ?_
  refine j_icmp_ne B 78 dL_asks_64 (by decide) (fun h5 => absurd h5 (by decide)) (fun h5 => ?_)
  refine j_aload_n B dL_asks_67 0 rfl rfl ?_
  refine j_iload_n B dL_asks_68 2 rfl rfl ?_
  refine j_iload_n B dL_asks_69 3 rfl rfl ?_
  refine j_iload B dL_asks_70 4 rfl ?_
  have hsc := sc_wipe σ a b e
  refine j_wVi B 3 [.int a, .int b, .int e] (Wd' := fun _ => pvW D cD cC cI cL A (sp_wipe σ a b e).2.2 n ad φ ca f) (WdX' := pvW D cD cC cI cL A σ n ad φ ca f) (c_X2_wipe l hl D cD cC cI cZ cL (pvA A ca) σ n ad hG a b e) rfl (fun H h => h.x) q_343 q_344 q_345 q_1 q_346 hdX2_wipe rfl ⟨Nat.le_of_ble_eq_true rfl, Nat.le_of_ble_eq_true rfl⟩ (Nat.le_of_ble_eq_true rfl) dL_asks_72 rfl ⟨Nat.le_of_ble_eq_true rfl, Nat.le_of_ble_eq_true rfl⟩ (fun _ h => h.1) (fun H h q hq hA => h.new q hq hA) (fun H h => h.1) (fun H H1 u h h2 hz hk => h.cls h2 hk) (fun H H1 h h2 hz hk => h.cls h2 hk) (fun k hk => ?_) (fun r u hp => ?_)
  · obtain ⟨hk1, hk0⟩ := hk
    have hX : (sp_wipe σ a b e).2.2 = σ := hsc.2 (by rw [hk1]; exact hk0)
    have hcs : k = 2 ∨ k = 3 := by have := hsc.1; omega
    rcases hcs with rfl | rfl
    · refine ⟨200, ⟨[⟨0, 194, 195, 56⟩], ⟨0, 194, 200, 58⟩, [⟨0, 194, 205, 60⟩], pgEA, ht, (List.forall_mem_cons.mpr ⟨Or.inr ⟨by decide, pgES, B.2.2.2.2.1 _ q_308, pgB_nc B (pgEA, pgES) (by decide)⟩, (fun _ h => nomatch h)⟩), by decide, by decide, B.2.2.2.2.1 _ q_309, pgB_nw B (w := .castable pgEA pgEA) (by decide) rfl, rfl⟩, fun q9 => ?_⟩
      refine j_astore B (L' := [(5, .ref q9), (0, .ref (ad 0)), (1, .int 4), (2, .int a), (3, .int b), (4, .int e)]) dL_asks_200 (by decide) rfl ?_
      refine j_bipush B (v := (-9)) dL_asks_202 (by decide) ?_
      refine j_world (Wd' := pvW D cD cC cI cL A (sp_wipe σ a b e).2.2 n ad φ ca f) (fun H h => by rw [hX]; exact h) ?_
      exact hret 204 _ (-9) () _ _ dL_asks_204 rfl (Nat.le_of_ble_eq_true rfl) (Nat.le_of_ble_eq_true rfl) (by unfold pvT; rw [hk1] <;> rfl)
    · refine ⟨195, ⟨[], ⟨0, 194, 195, 56⟩, [⟨0, 194, 200, 58⟩, ⟨0, 194, 205, 60⟩], pgES, ht, (fun _ h => nomatch h), by decide, by decide, B.2.2.2.2.1 _ q_308, pgB_nw B (w := .castable pgES pgES) (by decide) rfl, rfl⟩, fun q9 => ?_⟩
      refine j_astore B (L' := [(5, .ref q9), (0, .ref (ad 0)), (1, .int 4), (2, .int a), (3, .int b), (4, .int e)]) dL_asks_195 (by decide) rfl ?_
      refine j_bipush B (v := (-8)) dL_asks_197 (by decide) ?_
      refine j_world (Wd' := pvW D cD cC cI cL A (sp_wipe σ a b e).2.2 n ad φ ca f) (fun H h => by rw [hX]; exact h) ?_
      exact hret 199 _ (-8) () _ _ dL_asks_199 rfl (Nat.le_of_ble_eq_true rfl) (Nat.le_of_ble_eq_true rfl) (by unfold pvT; rw [hk1] <;> rfl)
  · obtain ⟨h0, rfl⟩ := hp
    refine j_goto B 194 dL_asks_75 (by decide) ?_
    exact hret 194 _ _ () _ _ dL_asks_194 rfl (Nat.le_of_ble_eq_true rfl) (Nat.le_of_ble_eq_true rfl) (by unfold pvT; rw [if_pos h0])
abbrev rm_asks_5 : Room := { frames := 8, cells := 5, slots := 30, locals := 128 }
set_option maxHeartbeats 4000000 in
set_option maxRecDepth 100000 in
/-- asks: smash -/
theorem c_L_asks_5 (l : Launch) (hl : l.stackTraces = false) (D : va_G) (cD cC cI cZ cL : ClassId) (A : Nat → Prop) (σ φ : pgSt) (n : Nat) (ad ca : Nat → Nat) (f : Nat → Int64) (hG : pgI n σ) (a b e : Int32) (h1 : (sp_smash σ a b).1 ≠ 1) : Met l yL_asks (.codeWith yL_asks cL_asks 6 (some .int) [(0, 194, 195, 56), (0, 194, 200, 58), (0, 194, 205, 60)] :: pgWd) rm_asks_5 (pgPc D (pgTys cD cC cI cZ cL) A (pvW D cD cC cI cL A σ n ad φ ca f) [.ref (ad 0), .int 5, .int a, .int b, .int e]) (va_Qi (fun (r : Int32) (_ : Unit) => r = pvT (sp_smash σ a b)) (fun _ t9 => (pvW D cD cC cI cL A (sp_smash σ a b).2.2 n ad φ ca f) t9.heap) A) rm_asks_5.cells rm_asks_5.slots A := by
  refine pv_enterW (own := RL) (by decide) rfl (Nat.le_of_ble_eq_true rfl) (fun p e9 s m args below meth cc9 Q B ht hret => ?_)
  refine j_iload_n B dL_asks_0 1 rfl rfl ?_
  refine j_if_ne B 13 dL_asks_1 (by decide) (fun h1 => ?_) (fun h1 => absurd h1 (by decide))
  refine j_iload_n B dL_asks_13 1 rfl rfl ?_
  refine j_iconst B (v := 1) dL_asks_14 (by decide) ?_
  refine j_icmp_ne B 35 dL_asks_15 (by decide) (fun h2 => ?_) (fun h2 => absurd h2 (by decide))
  refine j_iload_n B dL_asks_35 1 rfl rfl ?_
  refine j_iconst B (v := 2) dL_asks_36 (by decide) ?_
  refine j_icmp_ne B 49 dL_asks_37 (by decide) (fun h3 => ?_) (fun h3 => absurd h3 (by decide))
  refine j_iload_n B dL_asks_49 1 rfl rfl ?_
  refine j_iconst B (v := 3) dL_asks_50 (by decide) ?_
  refine j_icmp_ne B 62 dL_asks_51 (by decide) (fun h4 => ?_) (fun h4 => absurd h4 (by decide))
  refine j_iload_n B dL_asks_62 1 rfl rfl ?_
  refine j_iconst B (v := 4) dL_asks_63 (by decide) ?_
  refine j_icmp_ne B 78 dL_asks_64 (by decide) (fun h5 => ?_) (fun h5 => absurd h5 (by decide))
  refine j_iload_n B dL_asks_78 1 rfl rfl ?_
  refine j_iconst B (v := 5) dL_asks_79 (by decide) ?_
  refine j_icmp_ne B 92 dL_asks_80 (by decide) (fun h6 => absurd h6 (by decide)) (fun h6 => ?_)
  refine j_aload_n B dL_asks_83 0 rfl rfl ?_
  refine j_iload_n B dL_asks_84 2 rfl rfl ?_
  refine j_iload_n B dL_asks_85 3 rfl rfl ?_
  have hsc := sc_smash σ a b
  refine j_wVi B 2 [.int a, .int b] (Wd' := fun _ => pvW D cD cC cI cL A (sp_smash σ a b).2.2 n ad φ ca f) (WdX' := pvW D cD cC cI cL A σ n ad φ ca f) (c_X2_smash l hl D cD cC cI cZ cL (pvA A ca) σ n ad hG a b) rfl (fun H h => h.x) q_362 q_363 q_364 q_1 q_365 hdX2_smash rfl ⟨Nat.le_of_ble_eq_true rfl, Nat.le_of_ble_eq_true rfl⟩ (Nat.le_of_ble_eq_true rfl) dL_asks_86 rfl ⟨Nat.le_of_ble_eq_true rfl, Nat.le_of_ble_eq_true rfl⟩ (fun _ h => h.1) (fun H h q hq hA => h.new q hq hA) (fun H h => h.1) (fun H H1 u h h2 hz hk => h.cls h2 hk) (fun H H1 h h2 hz hk => h.cls h2 hk) (fun k hk => ?_) (fun r u hp => ?_)
  · obtain ⟨hk1, hk0⟩ := hk
    have hX : (sp_smash σ a b).2.2 = σ := hsc.2 (by rw [hk1]; exact hk0)
    have hcs : k = 2 ∨ k = 3 := by have := hsc.1; omega
    rcases hcs with rfl | rfl
    · refine ⟨200, ⟨[⟨0, 194, 195, 56⟩], ⟨0, 194, 200, 58⟩, [⟨0, 194, 205, 60⟩], pgEA, ht, (List.forall_mem_cons.mpr ⟨Or.inr ⟨by decide, pgES, B.2.2.2.2.1 _ q_308, pgB_nc B (pgEA, pgES) (by decide)⟩, (fun _ h => nomatch h)⟩), by decide, by decide, B.2.2.2.2.1 _ q_309, pgB_nw B (w := .castable pgEA pgEA) (by decide) rfl, rfl⟩, fun q9 => ?_⟩
      refine j_astore B (L' := [(5, .ref q9), (0, .ref (ad 0)), (1, .int 5), (2, .int a), (3, .int b), (4, .int e)]) dL_asks_200 (by decide) rfl ?_
      refine j_bipush B (v := (-9)) dL_asks_202 (by decide) ?_
      refine j_world (Wd' := pvW D cD cC cI cL A (sp_smash σ a b).2.2 n ad φ ca f) (fun H h => by rw [hX]; exact h) ?_
      exact hret 204 _ (-9) () _ _ dL_asks_204 rfl (Nat.le_of_ble_eq_true rfl) (Nat.le_of_ble_eq_true rfl) (by unfold pvT; rw [hk1] <;> rfl)
    · refine ⟨195, ⟨[], ⟨0, 194, 195, 56⟩, [⟨0, 194, 200, 58⟩, ⟨0, 194, 205, 60⟩], pgES, ht, (fun _ h => nomatch h), by decide, by decide, B.2.2.2.2.1 _ q_308, pgB_nw B (w := .castable pgES pgES) (by decide) rfl, rfl⟩, fun q9 => ?_⟩
      refine j_astore B (L' := [(5, .ref q9), (0, .ref (ad 0)), (1, .int 5), (2, .int a), (3, .int b), (4, .int e)]) dL_asks_195 (by decide) rfl ?_
      refine j_bipush B (v := (-8)) dL_asks_197 (by decide) ?_
      refine j_world (Wd' := pvW D cD cC cI cL A (sp_smash σ a b).2.2 n ad φ ca f) (fun H h => by rw [hX]; exact h) ?_
      exact hret 199 _ (-8) () _ _ dL_asks_199 rfl (Nat.le_of_ble_eq_true rfl) (Nat.le_of_ble_eq_true rfl) (by unfold pvT; rw [hk1] <;> rfl)
  · obtain ⟨h0, rfl⟩ := hp
    refine j_goto B 194 dL_asks_89 (by decide) ?_
    exact hret 194 _ _ () _ _ dL_asks_194 rfl (Nat.le_of_ble_eq_true rfl) (Nat.le_of_ble_eq_true rfl) (by unfold pvT; rw [if_pos h0])
abbrev rm_asks_6 : Room := { frames := 8, cells := 4, slots := 24, locals := 128 }
set_option maxHeartbeats 4000000 in
set_option maxRecDepth 100000 in
/-- asks: check -/
theorem c_L_asks_6 (l : Launch) (hl : l.stackTraces = false) (D : va_G) (cD cC cI cZ cL : ClassId) (A : Nat → Prop) (σ φ : pgSt) (n : Nat) (ad ca : Nat → Nat) (f : Nat → Int64) (hG : pgI n σ) (a b e : Int32) (g : Int32) (hg : 0 < e ∧ g = 1 ∨ ¬ 0 < e ∧ g = 0) (h1 : (sp_check σ a b g).1 ≠ 1) : Met l yL_asks (.codeWith yL_asks cL_asks 6 (some .int) [(0, 194, 195, 56), (0, 194, 200, 58), (0, 194, 205, 60)] :: pgWd) rm_asks_6 (pgPc D (pgTys cD cC cI cZ cL) A (pvW D cD cC cI cL A σ n ad φ ca f) [.ref (ad 0), .int 6, .int a, .int b, .int e]) (va_Qi (fun (r : Int32) (_ : Unit) => r = pvT (sp_check σ a b g)) (fun _ t9 => (pvW D cD cC cI cL A (sp_check σ a b g).2.2 n ad φ ca f) t9.heap) A) rm_asks_6.cells rm_asks_6.slots A := by
  refine pv_enterW (own := RL) (by decide) rfl (Nat.le_of_ble_eq_true rfl) (fun p e9 s m args below meth cc9 Q B ht hret => ?_)
  rcases hg with ⟨hb, rfl⟩ | ⟨hb, rfl⟩
  · refine j_iload_n B dL_asks_0 1 rfl rfl ?_
    refine j_if_ne B 13 dL_asks_1 (by decide) (fun h1 => ?_) (fun h1 => absurd h1 (by decide))
    refine j_iload_n B dL_asks_13 1 rfl rfl ?_
    refine j_iconst B (v := 1) dL_asks_14 (by decide) ?_
    refine j_icmp_ne B 35 dL_asks_15 (by decide) (fun h2 => ?_) (fun h2 => absurd h2 (by decide))
    refine j_iload_n B dL_asks_35 1 rfl rfl ?_
    refine j_iconst B (v := 2) dL_asks_36 (by decide) ?_
    refine j_icmp_ne B 49 dL_asks_37 (by decide) (fun h3 => ?_) (fun h3 => absurd h3 (by decide))
    refine j_iload_n B dL_asks_49 1 rfl rfl ?_
    refine j_iconst B (v := 3) dL_asks_50 (by decide) ?_
    refine j_icmp_ne B 62 dL_asks_51 (by decide) (fun h4 => ?_) (fun h4 => absurd h4 (by decide))
    refine j_iload_n B dL_asks_62 1 rfl rfl ?_
    refine j_iconst B (v := 4) dL_asks_63 (by decide) ?_
    refine j_icmp_ne B 78 dL_asks_64 (by decide) (fun h5 => ?_) (fun h5 => absurd h5 (by decide))
    refine j_iload_n B dL_asks_78 1 rfl rfl ?_
    refine j_iconst B (v := 5) dL_asks_79 (by decide) ?_
    refine j_icmp_ne B 92 dL_asks_80 (by decide) (fun h6 => ?_) (fun h6 => absurd h6 (by decide))
    refine j_iload_n B dL_asks_92 1 rfl rfl ?_
    refine j_bipush B (v := 6) dL_asks_93 (by decide) ?_
    refine j_icmp_ne B 117 dL_asks_95 (by decide) (fun h7 => absurd h7 (by decide)) (fun h7 => ?_)
    refine j_aload_n B dL_asks_98 0 rfl rfl ?_
    refine j_iload_n B dL_asks_99 2 rfl rfl ?_
    refine j_iload_n B dL_asks_100 3 rfl rfl ?_
    refine j_iload B dL_asks_101 4 rfl ?_
    refine j_if_le B 110 dL_asks_103 (by decide) (fun h8 => absurd hb (Int32.not_lt.mpr h8)) (fun h8 => ?_)
    refine j_iconst B (v := 1) dL_asks_106 (by decide) ?_
    refine j_goto B 111 dL_asks_107 (by decide) ?_
    have hsc := sc_check σ a b 1
    refine j_wVi B 3 [.int a, .int b, .int 1] (Wd' := fun _ => pvW D cD cC cI cL A (sp_check σ a b 1).2.2 n ad φ ca f) (WdX' := pvW D cD cC cI cL A σ n ad φ ca f) (c_X2_check l hl D cD cC cI cZ cL (pvA A ca) σ n ad hG a b 1 (Or.inr rfl)) rfl (fun H h => h.x) q_367 q_368 q_369 q_1 q_370 hdX2_check rfl ⟨Nat.le_of_ble_eq_true rfl, Nat.le_of_ble_eq_true rfl⟩ (Nat.le_of_ble_eq_true rfl) dL_asks_111 rfl ⟨Nat.le_of_ble_eq_true rfl, Nat.le_of_ble_eq_true rfl⟩ (fun _ h => h.1) (fun H h q hq hA => h.new q hq hA) (fun H h => h.1) (fun H H1 u h h2 hz hk => h.cls h2 hk) (fun H H1 h h2 hz hk => h.cls h2 hk) (fun k hk => ?_) (fun r u hp => ?_)
    · obtain ⟨hk1, hk0⟩ := hk
      have hX : (sp_check σ a b 1).2.2 = σ := hsc.2 (by rw [hk1]; exact hk0)
      have hcs : k = 2 ∨ k = 3 := by have := hsc.1; omega
      rcases hcs with rfl | rfl
      · refine ⟨200, ⟨[⟨0, 194, 195, 56⟩], ⟨0, 194, 200, 58⟩, [⟨0, 194, 205, 60⟩], pgEA, ht, (List.forall_mem_cons.mpr ⟨Or.inr ⟨by decide, pgES, B.2.2.2.2.1 _ q_308, pgB_nc B (pgEA, pgES) (by decide)⟩, (fun _ h => nomatch h)⟩), by decide, by decide, B.2.2.2.2.1 _ q_309, pgB_nw B (w := .castable pgEA pgEA) (by decide) rfl, rfl⟩, fun q9 => ?_⟩
        refine j_astore B (L' := [(5, .ref q9), (0, .ref (ad 0)), (1, .int 6), (2, .int a), (3, .int b), (4, .int e)]) dL_asks_200 (by decide) rfl ?_
        refine j_bipush B (v := (-9)) dL_asks_202 (by decide) ?_
        refine j_world (Wd' := pvW D cD cC cI cL A (sp_check σ a b 1).2.2 n ad φ ca f) (fun H h => by rw [hX]; exact h) ?_
        exact hret 204 _ (-9) () _ _ dL_asks_204 rfl (Nat.le_of_ble_eq_true rfl) (Nat.le_of_ble_eq_true rfl) (by unfold pvT; rw [hk1] <;> rfl)
      · refine ⟨195, ⟨[], ⟨0, 194, 195, 56⟩, [⟨0, 194, 200, 58⟩, ⟨0, 194, 205, 60⟩], pgES, ht, (fun _ h => nomatch h), by decide, by decide, B.2.2.2.2.1 _ q_308, pgB_nw B (w := .castable pgES pgES) (by decide) rfl, rfl⟩, fun q9 => ?_⟩
        refine j_astore B (L' := [(5, .ref q9), (0, .ref (ad 0)), (1, .int 6), (2, .int a), (3, .int b), (4, .int e)]) dL_asks_195 (by decide) rfl ?_
        refine j_bipush B (v := (-8)) dL_asks_197 (by decide) ?_
        refine j_world (Wd' := pvW D cD cC cI cL A (sp_check σ a b 1).2.2 n ad φ ca f) (fun H h => by rw [hX]; exact h) ?_
        exact hret 199 _ (-8) () _ _ dL_asks_199 rfl (Nat.le_of_ble_eq_true rfl) (Nat.le_of_ble_eq_true rfl) (by unfold pvT; rw [hk1] <;> rfl)
    · obtain ⟨h0, rfl⟩ := hp
      refine j_goto B 194 dL_asks_114 (by decide) ?_
      exact hret 194 _ _ () _ _ dL_asks_194 rfl (Nat.le_of_ble_eq_true rfl) (Nat.le_of_ble_eq_true rfl) (by unfold pvT; rw [if_pos h0])
  · refine j_iload_n B dL_asks_0 1 rfl rfl ?_
    refine j_if_ne B 13 dL_asks_1 (by decide) (fun h9 => ?_) (fun h9 => absurd h9 (by decide))
    refine j_iload_n B dL_asks_13 1 rfl rfl ?_
    refine j_iconst B (v := 1) dL_asks_14 (by decide) ?_
    refine j_icmp_ne B 35 dL_asks_15 (by decide) (fun h10 => ?_) (fun h10 => absurd h10 (by decide))
    refine j_iload_n B dL_asks_35 1 rfl rfl ?_
    refine j_iconst B (v := 2) dL_asks_36 (by decide) ?_
    refine j_icmp_ne B 49 dL_asks_37 (by decide) (fun h11 => ?_) (fun h11 => absurd h11 (by decide))
    refine j_iload_n B dL_asks_49 1 rfl rfl ?_
    refine j_iconst B (v := 3) dL_asks_50 (by decide) ?_
    refine j_icmp_ne B 62 dL_asks_51 (by decide) (fun h12 => ?_) (fun h12 => absurd h12 (by decide))
    refine j_iload_n B dL_asks_62 1 rfl rfl ?_
    refine j_iconst B (v := 4) dL_asks_63 (by decide) ?_
    refine j_icmp_ne B 78 dL_asks_64 (by decide) (fun h13 => ?_) (fun h13 => absurd h13 (by decide))
    refine j_iload_n B dL_asks_78 1 rfl rfl ?_
    refine j_iconst B (v := 5) dL_asks_79 (by decide) ?_
    refine j_icmp_ne B 92 dL_asks_80 (by decide) (fun h14 => ?_) (fun h14 => absurd h14 (by decide))
    refine j_iload_n B dL_asks_92 1 rfl rfl ?_
    refine j_bipush B (v := 6) dL_asks_93 (by decide) ?_
    refine j_icmp_ne B 117 dL_asks_95 (by decide) (fun h15 => absurd h15 (by decide)) (fun h15 => ?_)
    refine j_aload_n B dL_asks_98 0 rfl rfl ?_
    refine j_iload_n B dL_asks_99 2 rfl rfl ?_
    refine j_iload_n B dL_asks_100 3 rfl rfl ?_
    refine j_iload B dL_asks_101 4 rfl ?_
    refine j_if_le B 110 dL_asks_103 (by decide) (fun h16 => ?_) (fun h16 => absurd (Int32.not_lt.mp hb) h16)
    refine j_iconst B (v := 0) dL_asks_110 (by decide) ?_
    have hsc := sc_check σ a b 0
    refine j_wVi B 3 [.int a, .int b, .int 0] (Wd' := fun _ => pvW D cD cC cI cL A (sp_check σ a b 0).2.2 n ad φ ca f) (WdX' := pvW D cD cC cI cL A σ n ad φ ca f) (c_X2_check l hl D cD cC cI cZ cL (pvA A ca) σ n ad hG a b 0 (Or.inl rfl)) rfl (fun H h => h.x) q_367 q_368 q_369 q_1 q_370 hdX2_check rfl ⟨Nat.le_of_ble_eq_true rfl, Nat.le_of_ble_eq_true rfl⟩ (Nat.le_of_ble_eq_true rfl) dL_asks_111 rfl ⟨Nat.le_of_ble_eq_true rfl, Nat.le_of_ble_eq_true rfl⟩ (fun _ h => h.1) (fun H h q hq hA => h.new q hq hA) (fun H h => h.1) (fun H H1 u h h2 hz hk => h.cls h2 hk) (fun H H1 h h2 hz hk => h.cls h2 hk) (fun k hk => ?_) (fun r u hp => ?_)
    · obtain ⟨hk1, hk0⟩ := hk
      have hX : (sp_check σ a b 0).2.2 = σ := hsc.2 (by rw [hk1]; exact hk0)
      have hcs : k = 2 ∨ k = 3 := by have := hsc.1; omega
      rcases hcs with rfl | rfl
      · refine ⟨200, ⟨[⟨0, 194, 195, 56⟩], ⟨0, 194, 200, 58⟩, [⟨0, 194, 205, 60⟩], pgEA, ht, (List.forall_mem_cons.mpr ⟨Or.inr ⟨by decide, pgES, B.2.2.2.2.1 _ q_308, pgB_nc B (pgEA, pgES) (by decide)⟩, (fun _ h => nomatch h)⟩), by decide, by decide, B.2.2.2.2.1 _ q_309, pgB_nw B (w := .castable pgEA pgEA) (by decide) rfl, rfl⟩, fun q9 => ?_⟩
        refine j_astore B (L' := [(5, .ref q9), (0, .ref (ad 0)), (1, .int 6), (2, .int a), (3, .int b), (4, .int e)]) dL_asks_200 (by decide) rfl ?_
        refine j_bipush B (v := (-9)) dL_asks_202 (by decide) ?_
        refine j_world (Wd' := pvW D cD cC cI cL A (sp_check σ a b 0).2.2 n ad φ ca f) (fun H h => by rw [hX]; exact h) ?_
        exact hret 204 _ (-9) () _ _ dL_asks_204 rfl (Nat.le_of_ble_eq_true rfl) (Nat.le_of_ble_eq_true rfl) (by unfold pvT; rw [hk1] <;> rfl)
      · refine ⟨195, ⟨[], ⟨0, 194, 195, 56⟩, [⟨0, 194, 200, 58⟩, ⟨0, 194, 205, 60⟩], pgES, ht, (fun _ h => nomatch h), by decide, by decide, B.2.2.2.2.1 _ q_308, pgB_nw B (w := .castable pgES pgES) (by decide) rfl, rfl⟩, fun q9 => ?_⟩
        refine j_astore B (L' := [(5, .ref q9), (0, .ref (ad 0)), (1, .int 6), (2, .int a), (3, .int b), (4, .int e)]) dL_asks_195 (by decide) rfl ?_
        refine j_bipush B (v := (-8)) dL_asks_197 (by decide) ?_
        refine j_world (Wd' := pvW D cD cC cI cL A (sp_check σ a b 0).2.2 n ad φ ca f) (fun H h => by rw [hX]; exact h) ?_
        exact hret 199 _ (-8) () _ _ dL_asks_199 rfl (Nat.le_of_ble_eq_true rfl) (Nat.le_of_ble_eq_true rfl) (by unfold pvT; rw [hk1] <;> rfl)
    · obtain ⟨h0, rfl⟩ := hp
      refine j_goto B 194 dL_asks_114 (by decide) ?_
      exact hret 194 _ _ () _ _ dL_asks_194 rfl (Nat.le_of_ble_eq_true rfl) (Nat.le_of_ble_eq_true rfl) (by unfold pvT; rw [if_pos h0])
abbrev rm_asks_7 : Room := { frames := 8, cells := 2, slots := 12, locals := 126 }
set_option maxHeartbeats 4000000 in
set_option maxRecDepth 100000 in
/-- asks: lose -/
theorem c_L_asks_7 (l : Launch) (hl : l.stackTraces = false) (D : va_G) (cD cC cI cZ cL : ClassId) (A : Nat → Prop) (σ φ : pgSt) (n : Nat) (ad ca : Nat → Nat) (f : Nat → Int64) (hG : pgI n σ) (a b e : Int32) (h1 : (sp_lose σ a).1 ≠ 1) : Met l yL_asks (.codeWith yL_asks cL_asks 6 (some .int) [(0, 194, 195, 56), (0, 194, 200, 58), (0, 194, 205, 60)] :: pgWd) rm_asks_7 (pgPc D (pgTys cD cC cI cZ cL) A (pvW D cD cC cI cL A σ n ad φ ca f) [.ref (ad 0), .int 7, .int a, .int b, .int e]) (va_Qi (fun (r : Int32) (_ : Unit) => r = pvT (sp_lose σ a)) (fun _ t9 => (pvW D cD cC cI cL A (sp_lose σ a).2.2 n ad φ ca f) t9.heap) A) rm_asks_7.cells rm_asks_7.slots A := by
  refine pv_enterW (own := RL) (by decide) rfl (Nat.le_of_ble_eq_true rfl) (fun p e9 s m args below meth cc9 Q B ht hret => ?_)
  refine j_iload_n B dL_asks_0 1 rfl rfl ?_
  refine j_if_ne B 13 dL_asks_1 (by decide) (fun h1 => ?_) (fun h1 => absurd h1 (by decide))
  refine j_iload_n B dL_asks_13 1 rfl rfl ?_
  refine j_iconst B (v := 1) dL_asks_14 (by decide) ?_
  refine j_icmp_ne B 35 dL_asks_15 (by decide) (fun h2 => ?_) (fun h2 => absurd h2 (by decide))
  refine j_iload_n B dL_asks_35 1 rfl rfl ?_
  refine j_iconst B (v := 2) dL_asks_36 (by decide) ?_
  refine j_icmp_ne B 49 dL_asks_37 (by decide) (fun h3 => ?_) (fun h3 => absurd h3 (by decide))
  refine j_iload_n B dL_asks_49 1 rfl rfl ?_
  refine j_iconst B (v := 3) dL_asks_50 (by decide) ?_
  refine j_icmp_ne B 62 dL_asks_51 (by decide) (fun h4 => ?_) (fun h4 => absurd h4 (by decide))
  refine j_iload_n B dL_asks_62 1 rfl rfl ?_
  refine j_iconst B (v := 4) dL_asks_63 (by decide) ?_
  refine j_icmp_ne B 78 dL_asks_64 (by decide) (fun h5 => ?_) (fun h5 => absurd h5 (by decide))
  refine j_iload_n B dL_asks_78 1 rfl rfl ?_
  refine j_iconst B (v := 5) dL_asks_79 (by decide) ?_
  refine j_icmp_ne B 92 dL_asks_80 (by decide) (fun h6 => ?_) (fun h6 => absurd h6 (by decide))
  refine j_iload_n B dL_asks_92 1 rfl rfl ?_
  refine j_bipush B (v := 6) dL_asks_93 (by decide) ?_
  refine j_icmp_ne B 117 dL_asks_95 (by decide) (fun h7 => ?_) (fun h7 => absurd h7 (by decide))
  refine j_iload_n B dL_asks_117 1 rfl rfl ?_
  refine j_bipush B (v := 7) dL_asks_118 (by decide) ?_
  refine j_icmp_ne B 131 dL_asks_120 (by decide) (fun h8 => absurd h8 (by decide)) (fun h8 => ?_)
  refine j_aload_n B dL_asks_123 0 rfl rfl ?_
  refine j_iload_n B dL_asks_124 2 rfl rfl ?_
  have hsc := sc_lose σ a
  refine j_wVi B 1 [.int a] (Wd' := fun _ => pvW D cD cC cI cL A (sp_lose σ a).2.2 n ad φ ca f) (WdX' := pvW D cD cC cI cL A σ n ad φ ca f) (c_X2_lose l hl D cD cC cI cZ cL (pvA A ca) σ n ad hG a) rfl (fun H h => h.x) q_373 q_374 q_375 q_1 q_376 hdX2_lose rfl ⟨Nat.le_of_ble_eq_true rfl, Nat.le_of_ble_eq_true rfl⟩ (Nat.le_of_ble_eq_true rfl) dL_asks_125 rfl ⟨Nat.le_of_ble_eq_true rfl, Nat.le_of_ble_eq_true rfl⟩ (fun _ h => h.1) (fun H h q hq hA => h.new q hq hA) (fun H h => h.1) (fun H H1 u h h2 hz hk => h.cls h2 hk) (fun H H1 h h2 hz hk => h.cls h2 hk) (fun k hk => ?_) (fun r u hp => ?_)
  · obtain ⟨hk1, hk0⟩ := hk
    have hX : (sp_lose σ a).2.2 = σ := hsc.2 (by rw [hk1]; exact hk0)
    have hcs : k = 3 := by have := hsc.1; omega
    rcases hcs with rfl
    · refine ⟨195, ⟨[], ⟨0, 194, 195, 56⟩, [⟨0, 194, 200, 58⟩, ⟨0, 194, 205, 60⟩], pgES, ht, (fun _ h => nomatch h), by decide, by decide, B.2.2.2.2.1 _ q_308, pgB_nw B (w := .castable pgES pgES) (by decide) rfl, rfl⟩, fun q9 => ?_⟩
      refine j_astore B (L' := [(5, .ref q9), (0, .ref (ad 0)), (1, .int 7), (2, .int a), (3, .int b), (4, .int e)]) dL_asks_195 (by decide) rfl ?_
      refine j_bipush B (v := (-8)) dL_asks_197 (by decide) ?_
      refine j_world (Wd' := pvW D cD cC cI cL A (sp_lose σ a).2.2 n ad φ ca f) (fun H h => by rw [hX]; exact h) ?_
      exact hret 199 _ (-8) () _ _ dL_asks_199 rfl (Nat.le_of_ble_eq_true rfl) (Nat.le_of_ble_eq_true rfl) (by unfold pvT; rw [hk1] <;> rfl)
  · obtain ⟨h0, rfl⟩ := hp
    refine j_goto B 194 dL_asks_128 (by decide) ?_
    exact hret 194 _ _ () _ _ dL_asks_194 rfl (Nat.le_of_ble_eq_true rfl) (Nat.le_of_ble_eq_true rfl) (by unfold pvT; rw [if_pos h0])
abbrev rm_asks_8 : Room := { frames := 8, cells := 2, slots := 12, locals := 126 }
set_option maxHeartbeats 4000000 in
set_option maxRecDepth 100000 in
/-- asks: find -/
theorem c_L_asks_8 (l : Launch) (hl : l.stackTraces = false) (D : va_G) (cD cC cI cZ cL : ClassId) (A : Nat → Prop) (σ φ : pgSt) (n : Nat) (ad ca : Nat → Nat) (f : Nat → Int64) (hG : pgI n σ) (a b e : Int32) (h1 : (sp_find σ a).1 ≠ 1) : Met l yL_asks (.codeWith yL_asks cL_asks 6 (some .int) [(0, 194, 195, 56), (0, 194, 200, 58), (0, 194, 205, 60)] :: pgWd) rm_asks_8 (pgPc D (pgTys cD cC cI cZ cL) A (pvW D cD cC cI cL A σ n ad φ ca f) [.ref (ad 0), .int 8, .int a, .int b, .int e]) (va_Qi (fun (r : Int32) (_ : Unit) => r = pvT (sp_find σ a)) (fun _ t9 => (pvW D cD cC cI cL A (sp_find σ a).2.2 n ad φ ca f) t9.heap) A) rm_asks_8.cells rm_asks_8.slots A := by
  refine pv_enterW (own := RL) (by decide) rfl (Nat.le_of_ble_eq_true rfl) (fun p e9 s m args below meth cc9 Q B ht hret => ?_)
  refine j_iload_n B dL_asks_0 1 rfl rfl ?_
  refine j_if_ne B 13 dL_asks_1 (by decide) (fun h1 => ?_) (fun h1 => absurd h1 (by decide))
  refine j_iload_n B dL_asks_13 1 rfl rfl ?_
  refine j_iconst B (v := 1) dL_asks_14 (by decide) ?_
  refine j_icmp_ne B 35 dL_asks_15 (by decide) (fun h2 => ?_) (fun h2 => absurd h2 (by decide))
  refine j_iload_n B dL_asks_35 1 rfl rfl ?_
  refine j_iconst B (v := 2) dL_asks_36 (by decide) ?_
  refine j_icmp_ne B 49 dL_asks_37 (by decide) (fun h3 => ?_) (fun h3 => absurd h3 (by decide))
  refine j_iload_n B dL_asks_49 1 rfl rfl ?_
  refine j_iconst B (v := 3) dL_asks_50 (by decide) ?_
  refine j_icmp_ne B 62 dL_asks_51 (by decide) (fun h4 => ?_) (fun h4 => absurd h4 (by decide))
  refine j_iload_n B dL_asks_62 1 rfl rfl ?_
  refine j_iconst B (v := 4) dL_asks_63 (by decide) ?_
  refine j_icmp_ne B 78 dL_asks_64 (by decide) (fun h5 => ?_) (fun h5 => absurd h5 (by decide))
  refine j_iload_n B dL_asks_78 1 rfl rfl ?_
  refine j_iconst B (v := 5) dL_asks_79 (by decide) ?_
  refine j_icmp_ne B 92 dL_asks_80 (by decide) (fun h6 => ?_) (fun h6 => absurd h6 (by decide))
  refine j_iload_n B dL_asks_92 1 rfl rfl ?_
  refine j_bipush B (v := 6) dL_asks_93 (by decide) ?_
  refine j_icmp_ne B 117 dL_asks_95 (by decide) (fun h7 => ?_) (fun h7 => absurd h7 (by decide))
  refine j_iload_n B dL_asks_117 1 rfl rfl ?_
  refine j_bipush B (v := 7) dL_asks_118 (by decide) ?_
  refine j_icmp_ne B 131 dL_asks_120 (by decide) (fun h8 => ?_) (fun h8 => absurd h8 (by decide))
  refine j_iload_n B dL_asks_131 1 rfl rfl ?_
  refine j_bipush B (v := 8) dL_asks_132 (by decide) ?_
  refine j_icmp_ne B 145 dL_asks_134 (by decide) (fun h9 => absurd h9 (by decide)) (fun h9 => ?_)
  refine j_aload_n B dL_asks_137 0 rfl rfl ?_
  refine j_iload_n B dL_asks_138 2 rfl rfl ?_
  have hsc := sc_find σ a
  refine j_wVi B 1 [.int a] (Wd' := fun _ => pvW D cD cC cI cL A (sp_find σ a).2.2 n ad φ ca f) (WdX' := pvW D cD cC cI cL A σ n ad φ ca f) (c_X2_find l hl D cD cC cI cZ cL (pvA A ca) σ n ad hG a) rfl (fun H h => h.x) q_378 q_379 q_380 q_1 q_381 hdX2_find rfl ⟨Nat.le_of_ble_eq_true rfl, Nat.le_of_ble_eq_true rfl⟩ (Nat.le_of_ble_eq_true rfl) dL_asks_139 rfl ⟨Nat.le_of_ble_eq_true rfl, Nat.le_of_ble_eq_true rfl⟩ (fun _ h => h.1) (fun H h q hq hA => h.new q hq hA) (fun H h => h.1) (fun H H1 u h h2 hz hk => h.cls h2 hk) (fun H H1 h h2 hz hk => h.cls h2 hk) (fun k hk => ?_) (fun r u hp => ?_)
  · obtain ⟨hk1, hk0⟩ := hk
    have hX : (sp_find σ a).2.2 = σ := hsc.2 (by rw [hk1]; exact hk0)
    have hcs : k = 3 := by have := hsc.1; omega
    rcases hcs with rfl
    · refine ⟨195, ⟨[], ⟨0, 194, 195, 56⟩, [⟨0, 194, 200, 58⟩, ⟨0, 194, 205, 60⟩], pgES, ht, (fun _ h => nomatch h), by decide, by decide, B.2.2.2.2.1 _ q_308, pgB_nw B (w := .castable pgES pgES) (by decide) rfl, rfl⟩, fun q9 => ?_⟩
      refine j_astore B (L' := [(5, .ref q9), (0, .ref (ad 0)), (1, .int 8), (2, .int a), (3, .int b), (4, .int e)]) dL_asks_195 (by decide) rfl ?_
      refine j_bipush B (v := (-8)) dL_asks_197 (by decide) ?_
      refine j_world (Wd' := pvW D cD cC cI cL A (sp_find σ a).2.2 n ad φ ca f) (fun H h => by rw [hX]; exact h) ?_
      exact hret 199 _ (-8) () _ _ dL_asks_199 rfl (Nat.le_of_ble_eq_true rfl) (Nat.le_of_ble_eq_true rfl) (by unfold pvT; rw [hk1] <;> rfl)
  · obtain ⟨h0, rfl⟩ := hp
    refine j_goto B 194 dL_asks_142 (by decide) ?_
    exact hret 194 _ _ () _ _ dL_asks_194 rfl (Nat.le_of_ble_eq_true rfl) (Nat.le_of_ble_eq_true rfl) (by unfold pvT; rw [if_pos h0])
abbrev rm_asks_9 : Room := { frames := 8, cells := 2, slots := 12, locals := 126 }
set_option maxHeartbeats 4000000 in
set_option maxRecDepth 100000 in
/-- asks: seal -/
theorem c_L_asks_9 (l : Launch) (hl : l.stackTraces = false) (D : va_G) (cD cC cI cZ cL : ClassId) (A : Nat → Prop) (σ φ : pgSt) (n : Nat) (ad ca : Nat → Nat) (f : Nat → Int64) (hG : pgI n σ) (a b e : Int32) (h1 : (sp_seal σ a).1 ≠ 1) : Met l yL_asks (.codeWith yL_asks cL_asks 6 (some .int) [(0, 194, 195, 56), (0, 194, 200, 58), (0, 194, 205, 60)] :: pgWd) rm_asks_9 (pgPc D (pgTys cD cC cI cZ cL) A (pvW D cD cC cI cL A σ n ad φ ca f) [.ref (ad 0), .int 9, .int a, .int b, .int e]) (va_Qi (fun (r : Int32) (_ : Unit) => r = pvT (sp_seal σ a)) (fun _ t9 => (pvW D cD cC cI cL A (sp_seal σ a).2.2 n ad φ ca f) t9.heap) A) rm_asks_9.cells rm_asks_9.slots A := by
  refine pv_enterW (own := RL) (by decide) rfl (Nat.le_of_ble_eq_true rfl) (fun p e9 s m args below meth cc9 Q B ht hret => ?_)
  refine j_iload_n B dL_asks_0 1 rfl rfl ?_
  refine j_if_ne B 13 dL_asks_1 (by decide) (fun h1 => ?_) (fun h1 => absurd h1 (by decide))
  refine j_iload_n B dL_asks_13 1 rfl rfl ?_
  refine j_iconst B (v := 1) dL_asks_14 (by decide) ?_
  refine j_icmp_ne B 35 dL_asks_15 (by decide) (fun h2 => ?_) (fun h2 => absurd h2 (by decide))
  refine j_iload_n B dL_asks_35 1 rfl rfl ?_
  refine j_iconst B (v := 2) dL_asks_36 (by decide) ?_
  refine j_icmp_ne B 49 dL_asks_37 (by decide) (fun h3 => ?_) (fun h3 => absurd h3 (by decide))
  refine j_iload_n B dL_asks_49 1 rfl rfl ?_
  refine j_iconst B (v := 3) dL_asks_50 (by decide) ?_
  refine j_icmp_ne B 62 dL_asks_51 (by decide) (fun h4 => ?_) (fun h4 => absurd h4 (by decide))
  refine j_iload_n B dL_asks_62 1 rfl rfl ?_
  refine j_iconst B (v := 4) dL_asks_63 (by decide) ?_
  refine j_icmp_ne B 78 dL_asks_64 (by decide) (fun h5 => ?_) (fun h5 => absurd h5 (by decide))
  refine j_iload_n B dL_asks_78 1 rfl rfl ?_
  refine j_iconst B (v := 5) dL_asks_79 (by decide) ?_
  refine j_icmp_ne B 92 dL_asks_80 (by decide) (fun h6 => ?_) (fun h6 => absurd h6 (by decide))
  refine j_iload_n B dL_asks_92 1 rfl rfl ?_
  refine j_bipush B (v := 6) dL_asks_93 (by decide) ?_
  refine j_icmp_ne B 117 dL_asks_95 (by decide) (fun h7 => ?_) (fun h7 => absurd h7 (by decide))
  refine j_iload_n B dL_asks_117 1 rfl rfl ?_
  refine j_bipush B (v := 7) dL_asks_118 (by decide) ?_
  refine j_icmp_ne B 131 dL_asks_120 (by decide) (fun h8 => ?_) (fun h8 => absurd h8 (by decide))
  refine j_iload_n B dL_asks_131 1 rfl rfl ?_
  refine j_bipush B (v := 8) dL_asks_132 (by decide) ?_
  refine j_icmp_ne B 145 dL_asks_134 (by decide) (fun h9 => ?_) (fun h9 => absurd h9 (by decide))
  refine j_iload_n B dL_asks_145 1 rfl rfl ?_
  refine j_bipush B (v := 9) dL_asks_146 (by decide) ?_
  refine j_icmp_ne B 159 dL_asks_148 (by decide) (fun h10 => absurd h10 (by decide)) (fun h10 => ?_)
  refine j_aload_n B dL_asks_151 0 rfl rfl ?_
  refine j_iload_n B dL_asks_152 2 rfl rfl ?_
  have hsc := sc_seal σ a
  refine j_wVi B 1 [.int a] (Wd' := fun _ => pvW D cD cC cI cL A (sp_seal σ a).2.2 n ad φ ca f) (WdX' := pvW D cD cC cI cL A σ n ad φ ca f) (c_X2_seal l hl D cD cC cI cZ cL (pvA A ca) σ n ad hG a) rfl (fun H h => h.x) q_383 q_384 q_385 q_1 q_386 hdX2_seal rfl ⟨Nat.le_of_ble_eq_true rfl, Nat.le_of_ble_eq_true rfl⟩ (Nat.le_of_ble_eq_true rfl) dL_asks_153 rfl ⟨Nat.le_of_ble_eq_true rfl, Nat.le_of_ble_eq_true rfl⟩ (fun _ h => h.1) (fun H h q hq hA => h.new q hq hA) (fun H h => h.1) (fun H H1 u h h2 hz hk => h.cls h2 hk) (fun H H1 h h2 hz hk => h.cls h2 hk) (fun k hk => ?_) (fun r u hp => ?_)
  · obtain ⟨hk1, hk0⟩ := hk
    have hX : (sp_seal σ a).2.2 = σ := hsc.2 (by rw [hk1]; exact hk0)
    have hcs : k = 3 := by have := hsc.1; omega
    rcases hcs with rfl
    · refine ⟨195, ⟨[], ⟨0, 194, 195, 56⟩, [⟨0, 194, 200, 58⟩, ⟨0, 194, 205, 60⟩], pgES, ht, (fun _ h => nomatch h), by decide, by decide, B.2.2.2.2.1 _ q_308, pgB_nw B (w := .castable pgES pgES) (by decide) rfl, rfl⟩, fun q9 => ?_⟩
      refine j_astore B (L' := [(5, .ref q9), (0, .ref (ad 0)), (1, .int 9), (2, .int a), (3, .int b), (4, .int e)]) dL_asks_195 (by decide) rfl ?_
      refine j_bipush B (v := (-8)) dL_asks_197 (by decide) ?_
      refine j_world (Wd' := pvW D cD cC cI cL A (sp_seal σ a).2.2 n ad φ ca f) (fun H h => by rw [hX]; exact h) ?_
      exact hret 199 _ (-8) () _ _ dL_asks_199 rfl (Nat.le_of_ble_eq_true rfl) (Nat.le_of_ble_eq_true rfl) (by unfold pvT; rw [hk1] <;> rfl)
  · obtain ⟨h0, rfl⟩ := hp
    refine j_goto B 194 dL_asks_156 (by decide) ?_
    exact hret 194 _ _ () _ _ dL_asks_194 rfl (Nat.le_of_ble_eq_true rfl) (Nat.le_of_ble_eq_true rfl) (by unfold pvT; rw [if_pos h0])
abbrev rm_asks_10 : Room := { frames := 8, cells := 2, slots := 12, locals := 128 }
set_option maxHeartbeats 4000000 in
set_option maxRecDepth 100000 in
/-- asks: open -/
theorem c_L_asks_10 (l : Launch) (hl : l.stackTraces = false) (D : va_G) (cD cC cI cZ cL : ClassId) (A : Nat → Prop) (σ φ : pgSt) (n : Nat) (ad ca : Nat → Nat) (f : Nat → Int64) (hG : pgI n σ) (a b e : Int32) (h1 : (sp_open σ a b).1 ≠ 1) : Met l yL_asks (.codeWith yL_asks cL_asks 6 (some .int) [(0, 194, 195, 56), (0, 194, 200, 58), (0, 194, 205, 60)] :: pgWd) rm_asks_10 (pgPc D (pgTys cD cC cI cZ cL) A (pvW D cD cC cI cL A σ n ad φ ca f) [.ref (ad 0), .int 10, .int a, .int b, .int e]) (va_Qi (fun (r : Int32) (_ : Unit) => r = pvT (sp_open σ a b)) (fun _ t9 => (pvW D cD cC cI cL A (sp_open σ a b).2.2 n ad φ ca f) t9.heap) A) rm_asks_10.cells rm_asks_10.slots A := by
  refine pv_enterW (own := RL) (by decide) rfl (Nat.le_of_ble_eq_true rfl) (fun p e9 s m args below meth cc9 Q B ht hret => ?_)
  refine j_iload_n B dL_asks_0 1 rfl rfl ?_
  refine j_if_ne B 13 dL_asks_1 (by decide) (fun h1 => ?_) (fun h1 => absurd h1 (by decide))
  refine j_iload_n B dL_asks_13 1 rfl rfl ?_
  refine j_iconst B (v := 1) dL_asks_14 (by decide) ?_
  refine j_icmp_ne B 35 dL_asks_15 (by decide) (fun h2 => ?_) (fun h2 => absurd h2 (by decide))
  refine j_iload_n B dL_asks_35 1 rfl rfl ?_
  refine j_iconst B (v := 2) dL_asks_36 (by decide) ?_
  refine j_icmp_ne B 49 dL_asks_37 (by decide) (fun h3 => ?_) (fun h3 => absurd h3 (by decide))
  refine j_iload_n B dL_asks_49 1 rfl rfl ?_
  refine j_iconst B (v := 3) dL_asks_50 (by decide) ?_
  refine j_icmp_ne B 62 dL_asks_51 (by decide) (fun h4 => ?_) (fun h4 => absurd h4 (by decide))
  refine j_iload_n B dL_asks_62 1 rfl rfl ?_
  refine j_iconst B (v := 4) dL_asks_63 (by decide) ?_
  refine j_icmp_ne B 78 dL_asks_64 (by decide) (fun h5 => ?_) (fun h5 => absurd h5 (by decide))
  refine j_iload_n B dL_asks_78 1 rfl rfl ?_
  refine j_iconst B (v := 5) dL_asks_79 (by decide) ?_
  refine j_icmp_ne B 92 dL_asks_80 (by decide) (fun h6 => ?_) (fun h6 => absurd h6 (by decide))
  refine j_iload_n B dL_asks_92 1 rfl rfl ?_
  refine j_bipush B (v := 6) dL_asks_93 (by decide) ?_
  refine j_icmp_ne B 117 dL_asks_95 (by decide) (fun h7 => ?_) (fun h7 => absurd h7 (by decide))
  refine j_iload_n B dL_asks_117 1 rfl rfl ?_
  refine j_bipush B (v := 7) dL_asks_118 (by decide) ?_
  refine j_icmp_ne B 131 dL_asks_120 (by decide) (fun h8 => ?_) (fun h8 => absurd h8 (by decide))
  refine j_iload_n B dL_asks_131 1 rfl rfl ?_
  refine j_bipush B (v := 8) dL_asks_132 (by decide) ?_
  refine j_icmp_ne B 145 dL_asks_134 (by decide) (fun h9 => ?_) (fun h9 => absurd h9 (by decide))
  refine j_iload_n B dL_asks_145 1 rfl rfl ?_
  refine j_bipush B (v := 9) dL_asks_146 (by decide) ?_
  refine j_icmp_ne B 159 dL_asks_148 (by decide) (fun h10 => ?_) (fun h10 => absurd h10 (by decide))
  refine j_iload_n B dL_asks_159 1 rfl rfl ?_
  refine j_bipush B (v := 10) dL_asks_160 (by decide) ?_
  refine j_icmp_ne B 174 dL_asks_162 (by decide) (fun h11 => absurd h11 (by decide)) (fun h11 => ?_)
  refine j_aload_n B dL_asks_165 0 rfl rfl ?_
  refine j_iload_n B dL_asks_166 2 rfl rfl ?_
  refine j_iload_n B dL_asks_167 3 rfl rfl ?_
  have hsc := sc_open σ a b
  refine j_wVi B 2 [.int a, .int b] (Wd' := fun _ => pvW D cD cC cI cL A (sp_open σ a b).2.2 n ad φ ca f) (WdX' := pvW D cD cC cI cL A σ n ad φ ca f) (c_X2_open l hl D cD cC cI cZ cL (pvA A ca) σ n ad hG a b) rfl (fun H h => h.x) q_388 q_389 q_390 q_1 q_391 hdX2_open rfl ⟨Nat.le_of_ble_eq_true rfl, Nat.le_of_ble_eq_true rfl⟩ (Nat.le_of_ble_eq_true rfl) dL_asks_168 rfl ⟨Nat.le_of_ble_eq_true rfl, Nat.le_of_ble_eq_true rfl⟩ (fun _ h => h.1) (fun H h q hq hA => h.new q hq hA) (fun H h => h.1) (fun H H1 u h h2 hz hk => h.cls h2 hk) (fun H H1 h h2 hz hk => h.cls h2 hk) (fun k hk => ?_) (fun r u hp => ?_)
  · obtain ⟨hk1, hk0⟩ := hk
    have hX : (sp_open σ a b).2.2 = σ := hsc.2 (by rw [hk1]; exact hk0)
    have hcs : k = 2 ∨ k = 3 := by have := hsc.1; omega
    rcases hcs with rfl | rfl
    · refine ⟨200, ⟨[⟨0, 194, 195, 56⟩], ⟨0, 194, 200, 58⟩, [⟨0, 194, 205, 60⟩], pgEA, ht, (List.forall_mem_cons.mpr ⟨Or.inr ⟨by decide, pgES, B.2.2.2.2.1 _ q_308, pgB_nc B (pgEA, pgES) (by decide)⟩, (fun _ h => nomatch h)⟩), by decide, by decide, B.2.2.2.2.1 _ q_309, pgB_nw B (w := .castable pgEA pgEA) (by decide) rfl, rfl⟩, fun q9 => ?_⟩
      refine j_astore B (L' := [(5, .ref q9), (0, .ref (ad 0)), (1, .int 10), (2, .int a), (3, .int b), (4, .int e)]) dL_asks_200 (by decide) rfl ?_
      refine j_bipush B (v := (-9)) dL_asks_202 (by decide) ?_
      refine j_world (Wd' := pvW D cD cC cI cL A (sp_open σ a b).2.2 n ad φ ca f) (fun H h => by rw [hX]; exact h) ?_
      exact hret 204 _ (-9) () _ _ dL_asks_204 rfl (Nat.le_of_ble_eq_true rfl) (Nat.le_of_ble_eq_true rfl) (by unfold pvT; rw [hk1] <;> rfl)
    · refine ⟨195, ⟨[], ⟨0, 194, 195, 56⟩, [⟨0, 194, 200, 58⟩, ⟨0, 194, 205, 60⟩], pgES, ht, (fun _ h => nomatch h), by decide, by decide, B.2.2.2.2.1 _ q_308, pgB_nw B (w := .castable pgES pgES) (by decide) rfl, rfl⟩, fun q9 => ?_⟩
      refine j_astore B (L' := [(5, .ref q9), (0, .ref (ad 0)), (1, .int 10), (2, .int a), (3, .int b), (4, .int e)]) dL_asks_195 (by decide) rfl ?_
      refine j_bipush B (v := (-8)) dL_asks_197 (by decide) ?_
      refine j_world (Wd' := pvW D cD cC cI cL A (sp_open σ a b).2.2 n ad φ ca f) (fun H h => by rw [hX]; exact h) ?_
      exact hret 199 _ (-8) () _ _ dL_asks_199 rfl (Nat.le_of_ble_eq_true rfl) (Nat.le_of_ble_eq_true rfl) (by unfold pvT; rw [hk1] <;> rfl)
  · obtain ⟨h0, rfl⟩ := hp
    refine j_goto B 194 dL_asks_171 (by decide) ?_
    exact hret 194 _ _ () _ _ dL_asks_194 rfl (Nat.le_of_ble_eq_true rfl) (Nat.le_of_ble_eq_true rfl) (by unfold pvT; rw [if_pos h0])
abbrev rm_asks_11 : Room := { frames := 8, cells := 3, slots := 18, locals := 128 }
set_option maxHeartbeats 4000000 in
set_option maxRecDepth 100000 in
/-- asks: carry -/
theorem c_L_asks_11 (l : Launch) (hl : l.stackTraces = false) (D : va_G) (cD cC cI cZ cL : ClassId) (A : Nat → Prop) (σ φ : pgSt) (n : Nat) (ad ca : Nat → Nat) (f : Nat → Int64) (hG : pgI n σ) (a b e : Int32) (h1 : (sp_carry σ a b).1 ≠ 1) : Met l yL_asks (.codeWith yL_asks cL_asks 6 (some .int) [(0, 194, 195, 56), (0, 194, 200, 58), (0, 194, 205, 60)] :: pgWd) rm_asks_11 (pgPc D (pgTys cD cC cI cZ cL) A (pvW D cD cC cI cL A σ n ad φ ca f) [.ref (ad 0), .int 11, .int a, .int b, .int e]) (va_Qi (fun (r : Int32) (_ : Unit) => r = pvT (sp_carry σ a b)) (fun _ t9 => (pvW D cD cC cI cL A (sp_carry σ a b).2.2 n ad φ ca f) t9.heap) A) rm_asks_11.cells rm_asks_11.slots A := by
  refine pv_enterW (own := RL) (by decide) rfl (Nat.le_of_ble_eq_true rfl) (fun p e9 s m args below meth cc9 Q B ht hret => ?_)
  refine j_iload_n B dL_asks_0 1 rfl rfl ?_
  refine j_if_ne B 13 dL_asks_1 (by decide) (fun h1 => ?_) (fun h1 => absurd h1 (by decide))
  refine j_iload_n B dL_asks_13 1 rfl rfl ?_
  refine j_iconst B (v := 1) dL_asks_14 (by decide) ?_
  refine j_icmp_ne B 35 dL_asks_15 (by decide) (fun h2 => ?_) (fun h2 => absurd h2 (by decide))
  refine j_iload_n B dL_asks_35 1 rfl rfl ?_
  refine j_iconst B (v := 2) dL_asks_36 (by decide) ?_
  refine j_icmp_ne B 49 dL_asks_37 (by decide) (fun h3 => ?_) (fun h3 => absurd h3 (by decide))
  refine j_iload_n B dL_asks_49 1 rfl rfl ?_
  refine j_iconst B (v := 3) dL_asks_50 (by decide) ?_
  refine j_icmp_ne B 62 dL_asks_51 (by decide) (fun h4 => ?_) (fun h4 => absurd h4 (by decide))
  refine j_iload_n B dL_asks_62 1 rfl rfl ?_
  refine j_iconst B (v := 4) dL_asks_63 (by decide) ?_
  refine j_icmp_ne B 78 dL_asks_64 (by decide) (fun h5 => ?_) (fun h5 => absurd h5 (by decide))
  refine j_iload_n B dL_asks_78 1 rfl rfl ?_
  refine j_iconst B (v := 5) dL_asks_79 (by decide) ?_
  refine j_icmp_ne B 92 dL_asks_80 (by decide) (fun h6 => ?_) (fun h6 => absurd h6 (by decide))
  refine j_iload_n B dL_asks_92 1 rfl rfl ?_
  refine j_bipush B (v := 6) dL_asks_93 (by decide) ?_
  refine j_icmp_ne B 117 dL_asks_95 (by decide) (fun h7 => ?_) (fun h7 => absurd h7 (by decide))
  refine j_iload_n B dL_asks_117 1 rfl rfl ?_
  refine j_bipush B (v := 7) dL_asks_118 (by decide) ?_
  refine j_icmp_ne B 131 dL_asks_120 (by decide) (fun h8 => ?_) (fun h8 => absurd h8 (by decide))
  refine j_iload_n B dL_asks_131 1 rfl rfl ?_
  refine j_bipush B (v := 8) dL_asks_132 (by decide) ?_
  refine j_icmp_ne B 145 dL_asks_134 (by decide) (fun h9 => ?_) (fun h9 => absurd h9 (by decide))
  refine j_iload_n B dL_asks_145 1 rfl rfl ?_
  refine j_bipush B (v := 9) dL_asks_146 (by decide) ?_
  refine j_icmp_ne B 159 dL_asks_148 (by decide) (fun h10 => ?_) (fun h10 => absurd h10 (by decide))
  refine j_iload_n B dL_asks_159 1 rfl rfl ?_
  refine j_bipush B (v := 10) dL_asks_160 (by decide) ?_
  refine j_icmp_ne B 174 dL_asks_162 (by decide) (fun h11 => ?_) (fun h11 => absurd h11 (by decide))
  refine j_iload_n B dL_asks_174 1 rfl rfl ?_
  refine j_bipush B (v := 11) dL_asks_175 (by decide) ?_
  refine j_icmp_ne B 189 dL_asks_177 (by decide) (fun h12 => absurd h12 (by decide)) (fun h12 => ?_)
  refine j_aload_n B dL_asks_180 0 rfl rfl ?_
  refine j_iload_n B dL_asks_181 2 rfl rfl ?_
  refine j_iload_n B dL_asks_182 3 rfl rfl ?_
  have hsc := sc_carry σ a b
  refine j_wVi B 2 [.int a, .int b] (Wd' := fun _ => pvW D cD cC cI cL A (sp_carry σ a b).2.2 n ad φ ca f) (WdX' := pvW D cD cC cI cL A σ n ad φ ca f) (c_X2_carry l hl D cD cC cI cZ cL (pvA A ca) σ n ad hG a b) rfl (fun H h => h.x) q_394 q_395 q_396 q_1 q_397 hdX2_carry rfl ⟨Nat.le_of_ble_eq_true rfl, Nat.le_of_ble_eq_true rfl⟩ (Nat.le_of_ble_eq_true rfl) dL_asks_183 rfl ⟨Nat.le_of_ble_eq_true rfl, Nat.le_of_ble_eq_true rfl⟩ (fun _ h => h.1) (fun H h q hq hA => h.new q hq hA) (fun H h => h.1) (fun H H1 u h h2 hz hk => h.cls h2 hk) (fun H H1 h h2 hz hk => h.cls h2 hk) (fun k hk => ?_) (fun r u hp => ?_)
  · obtain ⟨hk1, hk0⟩ := hk
    have hX : (sp_carry σ a b).2.2 = σ := hsc.2 (by rw [hk1]; exact hk0)
    have hcs : k = 2 ∨ k = 3 := by have := hsc.1; omega
    rcases hcs with rfl | rfl
    · refine ⟨200, ⟨[⟨0, 194, 195, 56⟩], ⟨0, 194, 200, 58⟩, [⟨0, 194, 205, 60⟩], pgEA, ht, (List.forall_mem_cons.mpr ⟨Or.inr ⟨by decide, pgES, B.2.2.2.2.1 _ q_308, pgB_nc B (pgEA, pgES) (by decide)⟩, (fun _ h => nomatch h)⟩), by decide, by decide, B.2.2.2.2.1 _ q_309, pgB_nw B (w := .castable pgEA pgEA) (by decide) rfl, rfl⟩, fun q9 => ?_⟩
      refine j_astore B (L' := [(5, .ref q9), (0, .ref (ad 0)), (1, .int 11), (2, .int a), (3, .int b), (4, .int e)]) dL_asks_200 (by decide) rfl ?_
      refine j_bipush B (v := (-9)) dL_asks_202 (by decide) ?_
      refine j_world (Wd' := pvW D cD cC cI cL A (sp_carry σ a b).2.2 n ad φ ca f) (fun H h => by rw [hX]; exact h) ?_
      exact hret 204 _ (-9) () _ _ dL_asks_204 rfl (Nat.le_of_ble_eq_true rfl) (Nat.le_of_ble_eq_true rfl) (by unfold pvT; rw [hk1] <;> rfl)
    · refine ⟨195, ⟨[], ⟨0, 194, 195, 56⟩, [⟨0, 194, 200, 58⟩, ⟨0, 194, 205, 60⟩], pgES, ht, (fun _ h => nomatch h), by decide, by decide, B.2.2.2.2.1 _ q_308, pgB_nw B (w := .castable pgES pgES) (by decide) rfl, rfl⟩, fun q9 => ?_⟩
      refine j_astore B (L' := [(5, .ref q9), (0, .ref (ad 0)), (1, .int 11), (2, .int a), (3, .int b), (4, .int e)]) dL_asks_195 (by decide) rfl ?_
      refine j_bipush B (v := (-8)) dL_asks_197 (by decide) ?_
      refine j_world (Wd' := pvW D cD cC cI cL A (sp_carry σ a b).2.2 n ad φ ca f) (fun H h => by rw [hX]; exact h) ?_
      exact hret 199 _ (-8) () _ _ dL_asks_199 rfl (Nat.le_of_ble_eq_true rfl) (Nat.le_of_ble_eq_true rfl) (by unfold pvT; rw [hk1] <;> rfl)
  · obtain ⟨h0, rfl⟩ := hp
    refine j_goto B 194 dL_asks_186 (by decide) ?_
    exact hret 194 _ _ () _ _ dL_asks_194 rfl (Nat.le_of_ble_eq_true rfl) (Nat.le_of_ble_eq_true rfl) (by unfold pvT; rw [if_pos h0])
abbrev rm_asks_12 : Room := { frames := 8, cells := 2, slots := 12, locals := 128 }
set_option maxHeartbeats 4000000 in
set_option maxRecDepth 100000 in
/-- asks: certify -/
theorem c_L_asks_12 (l : Launch) (hl : l.stackTraces = false) (D : va_G) (cD cC cI cZ cL : ClassId) (A : Nat → Prop) (σ φ : pgSt) (n : Nat) (ad ca : Nat → Nat) (f : Nat → Int64) (hG : pgI n σ) (a b e : Int32) (h1 : (sp_certify σ a).1 ≠ 1) : Met l yL_asks (.codeWith yL_asks cL_asks 6 (some .int) [(0, 194, 195, 56), (0, 194, 200, 58), (0, 194, 205, 60)] :: pgWd) rm_asks_12 (pgPc D (pgTys cD cC cI cZ cL) A (pvW D cD cC cI cL A σ n ad φ ca f) [.ref (ad 0), .int 12, .int a, .int b, .int e]) (va_Qi (fun (r : Int32) (_ : Unit) => r = pvT (sp_certify σ a)) (fun _ t9 => (pvW D cD cC cI cL A (sp_certify σ a).2.2 n ad φ ca f) t9.heap) A) rm_asks_12.cells rm_asks_12.slots A := by
  refine pv_enterW (own := RL) (by decide) rfl (Nat.le_of_ble_eq_true rfl) (fun p e9 s m args below meth cc9 Q B ht hret => ?_)
  refine j_iload_n B dL_asks_0 1 rfl rfl ?_
  refine j_if_ne B 13 dL_asks_1 (by decide) (fun h1 => ?_) (fun h1 => absurd h1 (by decide))
  refine j_iload_n B dL_asks_13 1 rfl rfl ?_
  refine j_iconst B (v := 1) dL_asks_14 (by decide) ?_
  refine j_icmp_ne B 35 dL_asks_15 (by decide) (fun h2 => ?_) (fun h2 => absurd h2 (by decide))
  refine j_iload_n B dL_asks_35 1 rfl rfl ?_
  refine j_iconst B (v := 2) dL_asks_36 (by decide) ?_
  refine j_icmp_ne B 49 dL_asks_37 (by decide) (fun h3 => ?_) (fun h3 => absurd h3 (by decide))
  refine j_iload_n B dL_asks_49 1 rfl rfl ?_
  refine j_iconst B (v := 3) dL_asks_50 (by decide) ?_
  refine j_icmp_ne B 62 dL_asks_51 (by decide) (fun h4 => ?_) (fun h4 => absurd h4 (by decide))
  refine j_iload_n B dL_asks_62 1 rfl rfl ?_
  refine j_iconst B (v := 4) dL_asks_63 (by decide) ?_
  refine j_icmp_ne B 78 dL_asks_64 (by decide) (fun h5 => ?_) (fun h5 => absurd h5 (by decide))
  refine j_iload_n B dL_asks_78 1 rfl rfl ?_
  refine j_iconst B (v := 5) dL_asks_79 (by decide) ?_
  refine j_icmp_ne B 92 dL_asks_80 (by decide) (fun h6 => ?_) (fun h6 => absurd h6 (by decide))
  refine j_iload_n B dL_asks_92 1 rfl rfl ?_
  refine j_bipush B (v := 6) dL_asks_93 (by decide) ?_
  refine j_icmp_ne B 117 dL_asks_95 (by decide) (fun h7 => ?_) (fun h7 => absurd h7 (by decide))
  refine j_iload_n B dL_asks_117 1 rfl rfl ?_
  refine j_bipush B (v := 7) dL_asks_118 (by decide) ?_
  refine j_icmp_ne B 131 dL_asks_120 (by decide) (fun h8 => ?_) (fun h8 => absurd h8 (by decide))
  refine j_iload_n B dL_asks_131 1 rfl rfl ?_
  refine j_bipush B (v := 8) dL_asks_132 (by decide) ?_
  refine j_icmp_ne B 145 dL_asks_134 (by decide) (fun h9 => ?_) (fun h9 => absurd h9 (by decide))
  refine j_iload_n B dL_asks_145 1 rfl rfl ?_
  refine j_bipush B (v := 9) dL_asks_146 (by decide) ?_
  refine j_icmp_ne B 159 dL_asks_148 (by decide) (fun h10 => ?_) (fun h10 => absurd h10 (by decide))
  refine j_iload_n B dL_asks_159 1 rfl rfl ?_
  refine j_bipush B (v := 10) dL_asks_160 (by decide) ?_
  refine j_icmp_ne B 174 dL_asks_162 (by decide) (fun h11 => ?_) (fun h11 => absurd h11 (by decide))
  refine j_iload_n B dL_asks_174 1 rfl rfl ?_
  refine j_bipush B (v := 11) dL_asks_175 (by decide) ?_
  refine j_icmp_ne B 189 dL_asks_177 (by decide) (fun h12 => ?_) (fun h12 => absurd h12 (by decide))
  refine j_aload_n B dL_asks_189 0 rfl rfl ?_
  refine j_iload_n B dL_asks_190 2 rfl rfl ?_
  have hsc := sc_certify σ a
  refine j_wVi B 1 [.int a] (Wd' := fun _ => pvW D cD cC cI cL A (sp_certify σ a).2.2 n ad φ ca f) (WdX' := pvW D cD cC cI cL A σ n ad φ ca f) (c_X2_certify l hl D cD cC cI cZ cL (pvA A ca) σ n ad hG a) rfl (fun H h => h.x) q_404 q_405 q_406 q_1 q_407 hdX2_certify rfl ⟨Nat.le_of_ble_eq_true rfl, Nat.le_of_ble_eq_true rfl⟩ (Nat.le_of_ble_eq_true rfl) dL_asks_191 rfl ⟨Nat.le_of_ble_eq_true rfl, Nat.le_of_ble_eq_true rfl⟩ (fun _ h => h.1) (fun H h q hq hA => h.new q hq hA) (fun H h => h.1) (fun H H1 u h h2 hz hk => h.cls h2 hk) (fun H H1 h h2 hz hk => h.cls h2 hk) (fun k hk => ?_) (fun r u hp => ?_)
  · obtain ⟨hk1, hk0⟩ := hk
    have hX : (sp_certify σ a).2.2 = σ := hsc.2 (by rw [hk1]; exact hk0)
    have hcs : k = 4 := by have := hsc.1; omega
    rcases hcs with rfl
    · refine ⟨205, ⟨[⟨0, 194, 195, 56⟩, ⟨0, 194, 200, 58⟩], ⟨0, 194, 205, 60⟩, [], pgEN, ht, (List.forall_mem_cons.mpr ⟨Or.inr ⟨by decide, pgES, B.2.2.2.2.1 _ q_308, pgB_nc B (pgEN, pgES) (by decide)⟩, (List.forall_mem_cons.mpr ⟨Or.inr ⟨by decide, pgEA, B.2.2.2.2.1 _ q_309, pgB_nc B (pgEN, pgEA) (by decide)⟩, (fun _ h => nomatch h)⟩)⟩), by decide, by decide, B.2.2.2.2.1 _ q_310, pgB_nw B (w := .castable pgEN pgEN) (by decide) rfl, rfl⟩, fun q9 => ?_⟩
      refine j_astore B (L' := [(5, .ref q9), (0, .ref (ad 0)), (1, .int 12), (2, .int a), (3, .int b), (4, .int e)]) dL_asks_205 (by decide) rfl ?_
      refine j_bipush B (v := (-10)) dL_asks_207 (by decide) ?_
      refine j_world (Wd' := pvW D cD cC cI cL A (sp_certify σ a).2.2 n ad φ ca f) (fun H h => by rw [hX]; exact h) ?_
      exact hret 209 _ (-10) () _ _ dL_asks_209 rfl (Nat.le_of_ble_eq_true rfl) (Nat.le_of_ble_eq_true rfl) (by unfold pvT; rw [hk1] <;> rfl)
  · obtain ⟨h0, rfl⟩ := hp
    exact hret 194 _ _ () _ _ dL_asks_194 rfl (Nat.le_of_ble_eq_true rfl) (Nat.le_of_ble_eq_true rfl) (by unfold pvT; rw [if_pos h0])
