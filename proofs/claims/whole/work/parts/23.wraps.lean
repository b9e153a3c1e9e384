/-- the row of the method's table that takes an exception of code k at pc, and where it goes on -/
def pgCatch (args : Array Value) (s : State) (c : Code) (own : String) (pc k h : Nat) : Prop :=
  ∃ (pre : List ExceptionTableEntry) (x : ExceptionTableEntry) (suf : List ExceptionTableEntry) (name : String), c.exceptionTable.toList = pre ++ x :: suf ∧ (∀ z ∈ pre, covers z pc = false ∨ (z.catchType ≠ 0 ∧ ∃ nm : String, (Cond.classLink own z.catchType nm).before args s = true ∧ va_Nc (pgExn k) nm s)) ∧ covers x pc = true ∧ x.catchType ≠ 0 ∧ (Cond.classLink own x.catchType name).before args s = true ∧ (Cond.castable (pgExn k) name).before args s = true ∧ x.handlerPc = h
/-- the class's world beside the law's own array -/
def pgWO (D : va_G) (cD cC cL : ClassId) (A : Nat → Prop) (σ : pgSt) (n : Nat) (ad : Nat → Nat) (o : Nat) (f : Nat → Int64) (H : Heap) : Prop :=
  pgR D cD cC (fun z => A z ∧ z ≠ o) σ n ad H ∧ va_at D vwCl (o, .inl (cL, 1, .inr (.inl f))) H ∧ A o
theorem pg_c0 : (0 : Int32).toNatClampNeg = 0 := by decide
theorem pg_in01 : vp_in (0 : Int32) 1 := by
  have h : vp_in (nI 0) 1 := vp_in_nI (by omega) (by omega)
  rwa [nI_0] at h
section PGL
variable {p : Program} {l : Launch} {e : Env} {R : Room} {s : State} {m : MethodId} {args : Array Value} {below : List Frame} {meth : Method} {c : Code} {own : String} {cc : ByteArray} {nL : Nat} {D : va_G} {tys : List (ClassId × FieldType)} {A : Nat → Prop} {Wd : Heap → Prop} {cells slots : Nat} {Q : State → Prop} {pc : Nat} {L : List (Nat × Value)} {st stk : List Value}
theorem pgB_nc (B : pgB p m c s args meth own cc nL D tys A) (q : String × String) (hq : q ∈ pgNC) : va_Nc q.1 q.2 s := B.2.2.2.2.2.2.2.2.2.2.1.1 q hq
theorem pgB_nw (B : pgB p m c s args meth own cc nL D tys A) {w : Cond} (hw : w ∈ pgNw) (hon : w.onTables = true) : w.before args s = true := va_tabs hon rfl (B.2.2.2.2.2.2.2.2.2.1 w hw)
theorem j_wVi (B : pgB p m c s args meth own cc nL D tys A) {S : Type} {y : MethodName} {bytes : ByteArray} {maxL : Nat} {ret : Option FieldType} {rm : Room} {idx : Nat} (n : Nat) {b : Nat} (As : List Value) {WdC : Heap → Prop} {A1 : Nat → Prop} {post : Int32 → S → Prop} {WdC' : S → Heap → Prop} {pxC : Nat → Prop} {WdX : Heap → Prop} (Wd' : S → Heap → Prop) (WdX' : Heap → Prop) (hM : vx_Met l y (.code y bytes maxL ret :: pgWd) rm (pgPc D tys A1 WdC (.ref b :: As)) (va_Qi post (fun u t => WdC' u t.heap) A1) (pgX A1 pxC WdX) rm.cells rm.slots A1) {C : String} {T : u_T} {N ci : Nat} {fs : List Value} (hc : vwCl[ci]? = some (C, T, N)) (hat : ∀ H, Wd H → va_at D vwCl (b, .inr (ci, fs)) H) (q1 : Cond.methodLink own idx y ∈ pgWd) (q2 : Cond.instanceMethod y ∈ pgWd) (q3 : Cond.selects C y y ∈ pgWd) (q4 : Cond.initialized C ∈ pgWd) (q5 : Cond.code y bytes maxL ret ∈ pgWd) (hd : y.cls = C ∧ y.cls ≠ "java/lang/invoke/MethodHandle" ∧ y.cls ≠ "java/lang/invoke/VarHandle" ∧ (parseMethodDescriptor y.desc).map (fun d => d.parameters.length) = some n) (hn : As.length = n) (hR : rm.frames + 1 ≤ R.frames ∧ 8 + (maxL + 11) + rm.locals ≤ R.locals) (hcat : (st.map fun v => v.category).sum ≤ 8) (hdg : decode cc pc = .ok (.invokevirtual idx, 3)) (hstk : stk = As.reverse ++ .ref b :: st) (hcl : cells + rm.cells ≤ R.cells ∧ slots + rm.slots ≤ R.slots) (hA : ∀ q, A1 q → A q) (hN : ∀ (H : Heap), Wd H → ∀ q : Nat, H.size ≤ q → A q → A1 q) (cut : ∀ H, Wd H → WdC H) (back : ∀ (H H1 : Heap) (u : S), Wd H → WdC' u H1 → H.size ≤ H1.size → (∀ q : Nat, q < H.size → ¬ A1 q → H1[q]? = H[q]?) → Wd' u H1) (backX : ∀ (H H1 : Heap), Wd H → WdX H1 → H.size ≤ H1.size → (∀ q : Nat, q < H.size → ¬ A1 q → H1[q]? = H[q]?) → WdX' H1) (kx : ∀ k, pxC k → ∃ h, pgCatch args s c own pc k h ∧ ∀ q9 : Nat, pgJ p l e R s m args below meth c nL A (WdX') (cells + rm.cells) (slots + rm.slots) (Q) h (L) [.ref q9]) (kk : ∀ (r : Int32) (u : S), post r u → pgJ p l e R s m args below meth c nL A (Wd' u) (cells + rm.cells) (slots + rm.slots) (Q) (pc + 3) (L) (.int r :: st)) : pgJ p l e R s m args below meth c nL A (Wd) (cells) (slots) (Q) (pc) (L) (stk) := by
  subst hstk
  intro H locs ls hS hW hl
  exact vx_calli (vx_runV (As := As) (rest := st) ⟨B.1, B.2.1, B.2.2.1, B.2.2.2.1, B.2.2.2.2.1⟩ hM (cwV n B.2.2.2.2.1 (pgGV q1 q2 q3 q4 q5) rfl rfl rfl hd hR) ⟨pgBlind, va_recv B.2.2.2.2.2.2.1 (pg_one (hat H hW)) hc (q0 := 0) rfl, (fun U hU hWm => ⟨rfl, pg_narrowAt B.2.2.2.2.2.2 hS hU hWm hA (hN H hW), by rw [hU]; exact cut H hW⟩)⟩ rfl hn hl.1 rfl (lv_room hcat) hdg hcl) hS (fun q _ h => hA q h) hA (fun q _ h => hA q h) (fun E ce q9 k t H1 locs1 ht1 hvm hp hB hz hk hS1 hce hcv hcl9 => by
    obtain ⟨h, ⟨pre, x, suf, name, c1, c2, c3, c4, c5, c6, c7⟩, kj⟩ := kx k hp
    obtain ⟨hE, hWx⟩ := hB
    subst hE
    refine vx_catch B.2.2.2.1 pre x suf c1 c2 c3 c4 c5 c6 hce hcv hcl9 ?_
    rw [c7]
    exact kj q9 H1 locs1 ls hS1 (backX H H1 hW (by rw [← ht1]; exact hWx) hz hk) hl) (fun r u t H1 locs1 ht hvm hp hB hz hk hS1 => kk r u hp H1 locs1 ls hS1 (back H H1 u hW (by rw [← ht]; exact hB) hz hk) hl)
end PGL
section PGSC
variable {σ : pgSt}
theorem sc_bring (σ : pgSt) (kind secr keeper : Int32) : ((sp_bring σ kind secr keeper).1 = 0 ∨ (sp_bring σ kind secr keeper).1 = 1 ∨ (sp_bring σ kind secr keeper).1 = 2 ∨ (sp_bring σ kind secr keeper).1 = 3) ∧ ((sp_bring σ kind secr keeper).1 ≠ 0 → (sp_bring σ kind secr keeper).2.2 = σ) := by
  by_cases c1 : pgIsK keeper
  case neg =>
    rw [show sp_bring σ kind secr keeper = (1, 0, σ) from if_pos c1]
    exact ⟨Or.inr (Or.inl rfl), fun _ => rfl⟩
  by_cases c2 : 0 ≤ kind ∧ kind < 3 ∧ 0 ≤ secr ∧ secr < 4
  case neg =>
    rw [show sp_bring σ kind secr keeper = (2, 0, σ) from (if_neg (fun z => z c1)).trans (if_pos c2)]
    exact ⟨Or.inr (Or.inr (Or.inl rfl)), fun _ => rfl⟩
  by_cases hs : σ 13 0 < 60
  case neg =>
    rw [show sp_bring σ kind secr keeper = (3, 0, σ) from (if_neg (fun z => z c1)).trans ((if_neg (fun z => z c2)).trans (if_pos hs))]
    exact ⟨Or.inr (Or.inr (Or.inr rfl)), fun _ => rfl⟩
  rw [show sp_bring σ kind secr keeper = _ from (if_neg (fun z => z c1)).trans ((if_neg (fun z => z c2)).trans (if_neg (fun z => z hs)))]
  exact ⟨Or.inl rfl, fun h => absurd rfl h⟩
theorem sc_offer (σ : pgSt) (d to : Int32) : ((sp_offer σ d to).1 = 0 ∨ (sp_offer σ d to).1 = 1 ∨ (sp_offer σ d to).1 = 2 ∨ (sp_offer σ d to).1 = 3) ∧ ((sp_offer σ d to).1 ≠ 0 → (sp_offer σ d to).2.2 = σ) := by
  unfold sp_offer
  (repeat' split) <;> first | exact ⟨by simp, fun _ => rfl⟩ | exact ⟨by simp, fun h => absurd rfl h⟩
theorem sc_answer (σ : pgSt) (d t : Int32) : ((sp_answer σ d t).1 = 0 ∨ (sp_answer σ d t).1 = 1 ∨ (sp_answer σ d t).1 = 3) ∧ ((sp_answer σ d t).1 ≠ 0 → (sp_answer σ d t).2.2 = σ) := by
  unfold sp_answer
  (repeat' split) <;> first | exact ⟨by simp, fun _ => rfl⟩ | exact ⟨by simp, fun h => absurd rfl h⟩
theorem sc_pack (σ : pgSt) (d c : Int32) : ((sp_pack σ d c).1 = 0 ∨ (sp_pack σ d c).1 = 1 ∨ (sp_pack σ d c).1 = 3) ∧ ((sp_pack σ d c).1 ≠ 0 → (sp_pack σ d c).2.2 = σ) := by
  unfold sp_pack
  (repeat' split) <;> first | exact ⟨by simp, fun _ => rfl⟩ | exact ⟨by simp, fun h => absurd rfl h⟩
theorem sc_unpack (σ : pgSt) (d : Int32) : ((sp_unpack σ d).1 = 0 ∨ (sp_unpack σ d).1 = 1 ∨ (sp_unpack σ d).1 = 3) ∧ ((sp_unpack σ d).1 ≠ 0 → (sp_unpack σ d).2.2 = σ) := by
  unfold sp_unpack
  (repeat' split) <;> first | exact ⟨by simp, fun _ => rfl⟩ | exact ⟨by simp, fun h => absurd rfl h⟩
theorem sc_seal (σ : pgSt) (c : Int32) : ((sp_seal σ c).1 = 0 ∨ (sp_seal σ c).1 = 1 ∨ (sp_seal σ c).1 = 3) ∧ ((sp_seal σ c).1 ≠ 0 → (sp_seal σ c).2.2 = σ) := by
  unfold sp_seal
  (repeat' split) <;> first | exact ⟨by simp, fun _ => rfl⟩ | exact ⟨by simp, fun h => absurd rfl h⟩
theorem sc_open (σ : pgSt) (c k : Int32) : ((sp_open σ c k).1 = 0 ∨ (sp_open σ c k).1 = 1 ∨ (sp_open σ c k).1 = 2 ∨ (sp_open σ c k).1 = 3) ∧ ((sp_open σ c k).1 ≠ 0 → (sp_open σ c k).2.2 = σ) := by
  unfold sp_open
  (repeat' split) <;> first | exact ⟨by simp, fun _ => rfl⟩ | exact ⟨by simp, fun h => absurd rfl h⟩
theorem sc_carry (σ : pgSt) (c to : Int32) : ((sp_carry σ c to).1 = 0 ∨ (sp_carry σ c to).1 = 1 ∨ (sp_carry σ c to).1 = 2 ∨ (sp_carry σ c to).1 = 3) ∧ ((sp_carry σ c to).1 ≠ 0 → (sp_carry σ c to).2.2 = σ) := by
  unfold sp_carry
  (repeat' split) <;> first | exact ⟨by simp, fun _ => rfl⟩ | exact ⟨by simp, fun h => absurd rfl h⟩
theorem sc_wipe (σ : pgSt) (d way w : Int32) : ((sp_wipe σ d way w).1 = 0 ∨ (sp_wipe σ d way w).1 = 1 ∨ (sp_wipe σ d way w).1 = 2 ∨ (sp_wipe σ d way w).1 = 3) ∧ ((sp_wipe σ d way w).1 ≠ 0 → (sp_wipe σ d way w).2.2 = σ) := by
  unfold sp_wipe
  (repeat' split) <;> first | exact ⟨by simp, fun _ => rfl⟩ | exact ⟨by simp, fun h => absurd rfl h⟩
theorem sc_smash (σ : pgSt) (d w : Int32) : ((sp_smash σ d w).1 = 0 ∨ (sp_smash σ d w).1 = 1 ∨ (sp_smash σ d w).1 = 2 ∨ (sp_smash σ d w).1 = 3) ∧ ((sp_smash σ d w).1 ≠ 0 → (sp_smash σ d w).2.2 = σ) := by
  unfold sp_smash
  (repeat' split) <;> first | exact ⟨by simp, fun _ => rfl⟩ | exact ⟨by simp, fun h => absurd rfl h⟩
theorem sc_check (σ : pgSt) (d w g : Int32) : ((sp_check σ d w g).1 = 0 ∨ (sp_check σ d w g).1 = 1 ∨ (sp_check σ d w g).1 = 2 ∨ (sp_check σ d w g).1 = 3) ∧ ((sp_check σ d w g).1 ≠ 0 → (sp_check σ d w g).2.2 = σ) := by
  unfold sp_check
  (repeat' split) <;> first | exact ⟨by simp, fun _ => rfl⟩ | exact ⟨by simp, fun h => absurd rfl h⟩
theorem sc_lose (σ : pgSt) (d : Int32) : ((sp_lose σ d).1 = 0 ∨ (sp_lose σ d).1 = 1 ∨ (sp_lose σ d).1 = 3) ∧ ((sp_lose σ d).1 ≠ 0 → (sp_lose σ d).2.2 = σ) := by
  unfold sp_lose
  (repeat' split) <;> first | exact ⟨by simp, fun _ => rfl⟩ | exact ⟨by simp, fun h => absurd rfl h⟩
theorem sc_find (σ : pgSt) (d : Int32) : ((sp_find σ d).1 = 0 ∨ (sp_find σ d).1 = 1 ∨ (sp_find σ d).1 = 3) ∧ ((sp_find σ d).1 ≠ 0 → (sp_find σ d).2.2 = σ) := by
  unfold sp_find
  (repeat' split) <;> first | exact ⟨by simp, fun _ => rfl⟩ | exact ⟨by simp, fun h => absurd rfl h⟩
theorem sc_certify (σ : pgSt) (k : Int32) : ((sp_certify σ k).1 = 0 ∨ (sp_certify σ k).1 = 1 ∨ (sp_certify σ k).1 = 4) ∧ ((sp_certify σ k).1 ≠ 0 → (sp_certify σ k).2.2 = σ) := by
  unfold sp_certify
  (repeat' split) <;> first | exact ⟨by simp, fun _ => rfl⟩ | exact ⟨by simp, fun h => absurd rfl h⟩
theorem sc_askD (σ : pgSt) (d : Int32) (t : Nat) : ((sp_askD σ d t).1 = 0 ∨ (sp_askD σ d t).1 = 1) ∧ ((sp_askD σ d t).1 ≠ 0 → (sp_askD σ d t).2.2 = σ) := by
  unfold sp_askD
  (repeat' split) <;> first | exact ⟨by simp, fun _ => rfl⟩ | exact ⟨by simp, fun h => absurd rfl h⟩
theorem sc_askC (σ : pgSt) (c : Int32) (t : Nat) : ((sp_askC σ c t).1 = 0 ∨ (sp_askC σ c t).1 = 1) ∧ ((sp_askC σ c t).1 ≠ 0 → (sp_askC σ c t).2.2 = σ) := by
  unfold sp_askC
  (repeat' split) <;> first | exact ⟨by simp, fun _ => rfl⟩ | exact ⟨by simp, fun h => absurd rfl h⟩
theorem sc_isDone (σ : pgSt) (d : Int32) : ((sp_isDone σ d).1 = 0 ∨ (sp_isDone σ d).1 = 1) ∧ ((sp_isDone σ d).1 ≠ 0 → (sp_isDone σ d).2.2 = σ) := by
  unfold sp_isDone
  (repeat' split) <;> first | exact ⟨by simp, fun _ => rfl⟩ | exact ⟨by simp, fun h => absurd rfl h⟩
theorem sc_has (σ : pgSt) (k : Int32) : ((sp_has σ k).1 = 0 ∨ (sp_has σ k).1 = 1) ∧ ((sp_has σ k).1 ≠ 0 → (sp_has σ k).2.2 = σ) := by
  unfold sp_has
  (repeat' split) <;> first | exact ⟨by simp, fun _ => rfl⟩ | exact ⟨by simp, fun h => absurd rfl h⟩
theorem sz_isDone {σ : pgSt} {d : Int32} : (sp_isDone σ d).2.1 = 0 ∨ (sp_isDone σ d).2.1 = 1 := by
  unfold sp_isDone
  (repeat' split) <;> simp
theorem ss_askD {σ : pgSt} {d : Int32} {t : Nat} : (sp_askD σ d t).2.2 = σ := by
  unfold sp_askD
  split <;> rfl
theorem ss_askC {σ : pgSt} {c : Int32} {t : Nat} : (sp_askC σ c t).2.2 = σ := by
  unfold sp_askC
  split <;> rfl
theorem ss_isDone {σ : pgSt} {d : Int32} : (sp_isDone σ d).2.2 = σ := by
  unfold sp_isDone
  split <;> rfl
theorem ss_has {σ : pgSt} {k : Int32} : (sp_has σ k).2.2 = σ := by
  unfold sp_has
  split <;> rfl
end PGSC
/-- has, with what it throws as a number -/
theorem c_L_has (l : Launch) (hl : l.stackTraces = false) (D : va_G) (cD cC cI cZ cL : ClassId) (A : Nat → Prop) (σ : pgSt) (n : Nat) (ad : Nat → Nat) (o : Nat) (f : Nat → Int64) (hI : pgI n σ) (k0 : Int32) : Met l yL_has (.codeWith yL_has cL_has 4 (some .int) [(0, 9, 12, 13)] :: pgWd) ({ frames := 8, cells := 1, slots := 6, locals := 128 } : Room) (pgPc D (pgTys cD cC cI cZ cL) A (pgWO D cD cC cL A σ n ad o f) [.ref (ad 0), .int k0, .ref o]) (va_Qi (fun (r : Int32) (_ : Unit) => r = nI (sp_has σ k0).1) (fun _ t9 => pgWO D cD cC cL A (sp_has σ k0).2.2 n ad o (if (sp_has σ k0).1 = 0 then vp_updL f 0 (sp_has σ k0).2.1.toInt64 else f) t9.heap) A) 1 6 A := by
  have hsc := @sc_has σ k0
  refine pg_enterW (own := RL) (by decide) rfl (Nat.le_of_ble_eq_true rfl) (fun p e s m below meth cc9 B hr ht => ?_)
  refine j_fact (fun H h => h.2.2) (fun hAo => ?_)
  refine j_aload_n B dL_has_0 2 rfl rfl ?_
  refine j_iconst B (v := 0) dL_has_1 (by decide) ?_
  refine j_aload_n B dL_has_2 0 rfl rfl ?_
  refine j_iload_n B dL_has_3 1 rfl rfl ?_
  refine j_wVi B (S := Unit) 1 [.int k0] (WdC' := fun _ => pgR D cD cC (fun z => A z ∧ z ≠ o) σ n ad) (WdX := pgR D cD cC (fun z => A z ∧ z ≠ o) σ n ad) (fun _ => pgWO D cD cC cL A σ n ad o f) (pgWO D cD cC cL A σ n ad o f) (c_X2_has l hl D cD cC cI cZ cL (fun z => A z ∧ z ≠ o) σ n ad hI k0) rfl (fun H h => h.1.x) q_495 q_496 q_497 q_1 q_498 hdX2_has rfl ⟨Nat.le_of_ble_eq_true rfl, Nat.le_of_ble_eq_true rfl⟩ (Nat.le_of_ble_eq_true rfl) dL_has_4 rfl ⟨Nat.le_of_ble_eq_true rfl, Nat.le_of_ble_eq_true rfl⟩ (fun _ h => h.1) (fun H h z hz hA => ⟨hA, fun z2 => by have := h.2.1.lt; omega⟩) (fun _ h => h.1) (fun H H1 u h h1 hz hk => ⟨h1, h.2.1.kept (hk o h.2.1.lt (fun z => z.2 rfl)), h.2.2⟩) (fun H H1 h h1 hz hk => ⟨h1, h.2.1.kept (hk o h.2.1.lt (fun z => z.2 rfl)), h.2.2⟩) (fun k hk => ?_) (fun r u hp => ?_)
  · obtain ⟨hk1, hk0⟩ := hk
    have hX : (sp_has σ k0).2.2 = σ := hsc.2 (by rw [hk1]; exact hk0)
    have hne : ¬ (sp_has σ k0).1 = 0 := fun z => hk0 (hk1.symm.trans z)
    have hcs : k = 1 := by have := hsc.1; omega
    rcases hcs with rfl
    · refine ⟨12, ⟨[], ⟨0, 9, 12, 13⟩, [], pgEI, ht, (fun _ h => nomatch h), by decide, by decide, B.2.2.2.2.1 _ q_90, pgB_nw B (w := .castable pgEI pgEI) (by decide) rfl, rfl⟩, fun q9 => ?_⟩
      refine j_astore_n B (L' := [(3, .ref q9), (0, .ref (ad 0)), (1, .int k0), (2, .ref o)]) dL_has_12 rfl (by decide) rfl ?_
      refine j_iconst B (v := 1) dL_has_13 (by decide) ?_
      exact j_iret B hr rfl dL_has_14 (Nat.le_of_ble_eq_true rfl) (Nat.le_of_ble_eq_true rfl) () (by rw [hk1] <;> rfl) (fun H h => by rw [hX, if_neg hne]; exact h)
  · obtain ⟨h0, h1⟩ := hp
    subst h1
    refine j_i2l B dL_has_7 ?_
    refine j_last B (Wd' := pgWO D cD cC cL A σ n ad o (vp_updL f 0 (sp_has σ k0).2.1.toInt64)) (fun H h => h.2.1) 4 rfl pg_in01 dL_has_8 hAo (fun H H1 h hc hz ho => ⟨h.1.kept (fun k hk => ho _ (h.1.2.2 k hk).2), by rw [pg_c0] at hc; exact hc, hAo⟩) ?_
    refine j_goto B 15 dL_has_9 (by decide) ?_
    refine j_iconst B (v := 0) dL_has_15 (by decide) ?_
    exact j_iret B hr rfl dL_has_16 (Nat.le_of_ble_eq_true rfl) (Nat.le_of_ble_eq_true rfl) () (by rw [h0] <;> rfl) (fun H h => by rw [if_pos h0, ss_has]; exact h)
/-- offer, with what it throws as a number -/
theorem c_L_offer (l : Launch) (hl : l.stackTraces = false) (D : va_G) (cD cC cI cZ cL : ClassId) (A : Nat → Prop) (σ : pgSt) (n : Nat) (ad : Nat → Nat) (o : Nat) (f : Nat → Int64) (hI : pgI n σ) (d : Int32) (to : Int32) : Met l yL_offer (.codeWith yL_offer cL_offer 5 (some .int) [(0, 10, 13, 13), (0, 10, 17, 15), (0, 10, 21, 17)] :: pgWd) ({ frames := 8, cells := 3, slots := 18, locals := 127 } : Room) (pgPc D (pgTys cD cC cI cZ cL) A (pgWO D cD cC cL A σ n ad o f) [.ref (ad 0), .int d, .int to, .ref o]) (va_Qi (fun (r : Int32) (_ : Unit) => r = nI (sp_offer σ d to).1) (fun _ t9 => pgWO D cD cC cL A (sp_offer σ d to).2.2 n ad o (if (sp_offer σ d to).1 = 0 then vp_updL f 0 (sp_offer σ d to).2.1.toInt64 else f) t9.heap) A) 3 18 A := by
  have hsc := @sc_offer σ d to
  refine pg_enterW (own := RL) (by decide) rfl (Nat.le_of_ble_eq_true rfl) (fun p e s m below meth cc9 B hr ht => ?_)
  refine j_fact (fun H h => h.2.2) (fun hAo => ?_)
  refine j_aload_n B dL_offer_0 3 rfl rfl ?_
  refine j_iconst B (v := 0) dL_offer_1 (by decide) ?_
  refine j_aload_n B dL_offer_2 0 rfl rfl ?_
  refine j_iload_n B dL_offer_3 1 rfl rfl ?_
  refine j_iload_n B dL_offer_4 2 rfl rfl ?_
  refine j_wVi B (S := Unit) 2 [.int d, .int to] (WdC' := fun _ => pgR D cD cC (fun z => A z ∧ z ≠ o) (sp_offer σ d to).2.2 n ad) (WdX := pgR D cD cC (fun z => A z ∧ z ≠ o) σ n ad) (fun _ => pgWO D cD cC cL A (sp_offer σ d to).2.2 n ad o f) (pgWO D cD cC cL A σ n ad o f) (c_X2_offer l hl D cD cC cI cZ cL (fun z => A z ∧ z ≠ o) σ n ad hI d to) rfl (fun H h => h.1.x) q_256 q_257 q_258 q_1 q_259 hdX2_offer rfl ⟨Nat.le_of_ble_eq_true rfl, Nat.le_of_ble_eq_true rfl⟩ (Nat.le_of_ble_eq_true rfl) dL_offer_5 rfl ⟨Nat.le_of_ble_eq_true rfl, Nat.le_of_ble_eq_true rfl⟩ (fun _ h => h.1) (fun H h z hz hA => ⟨hA, fun z2 => by have := h.2.1.lt; omega⟩) (fun _ h => h.1) (fun H H1 u h h1 hz hk => ⟨h1, h.2.1.kept (hk o h.2.1.lt (fun z => z.2 rfl)), h.2.2⟩) (fun H H1 h h1 hz hk => ⟨h1, h.2.1.kept (hk o h.2.1.lt (fun z => z.2 rfl)), h.2.2⟩) (fun k hk => ?_) (fun r u hp => ?_)
  · obtain ⟨hk1, hk0⟩ := hk
    have hX : (sp_offer σ d to).2.2 = σ := hsc.2 (by rw [hk1]; exact hk0)
    have hne : ¬ (sp_offer σ d to).1 = 0 := fun z => hk0 (hk1.symm.trans z)
    have hcs : k = 1 ∨ k = 2 ∨ k = 3 := by have := hsc.1; omega
    rcases hcs with rfl | rfl | rfl
    · refine ⟨13, ⟨[], ⟨0, 10, 13, 13⟩, [⟨0, 10, 17, 15⟩, ⟨0, 10, 21, 17⟩], pgEI, ht, (fun _ h => nomatch h), by decide, by decide, B.2.2.2.2.1 _ q_90, pgB_nw B (w := .castable pgEI pgEI) (by decide) rfl, rfl⟩, fun q9 => ?_⟩
      refine j_astore B (L' := [(4, .ref q9), (0, .ref (ad 0)), (1, .int d), (2, .int to), (3, .ref o)]) dL_offer_13 (by decide) rfl ?_
      refine j_iconst B (v := 1) dL_offer_15 (by decide) ?_
      exact j_iret B hr rfl dL_offer_16 (Nat.le_of_ble_eq_true rfl) (Nat.le_of_ble_eq_true rfl) () (by rw [hk1] <;> rfl) (fun H h => by rw [hX, if_neg hne]; exact h)
    · refine ⟨17, ⟨[⟨0, 10, 13, 13⟩], ⟨0, 10, 17, 15⟩, [⟨0, 10, 21, 17⟩], pgEA, ht, List.forall_mem_cons.mpr ⟨Or.inr ⟨by decide, pgEI, B.2.2.2.2.1 _ q_90, pgB_nc B (pgEA, pgEI) (by decide)⟩, (fun _ h => nomatch h)⟩, by decide, by decide, B.2.2.2.2.1 _ q_91, pgB_nw B (w := .castable pgEA pgEA) (by decide) rfl, rfl⟩, fun q9 => ?_⟩
      refine j_astore B (L' := [(4, .ref q9), (0, .ref (ad 0)), (1, .int d), (2, .int to), (3, .ref o)]) dL_offer_17 (by decide) rfl ?_
      refine j_iconst B (v := 2) dL_offer_19 (by decide) ?_
      exact j_iret B hr rfl dL_offer_20 (Nat.le_of_ble_eq_true rfl) (Nat.le_of_ble_eq_true rfl) () (by rw [hk1] <;> rfl) (fun H h => by rw [hX, if_neg hne]; exact h)
    · refine ⟨21, ⟨[⟨0, 10, 13, 13⟩, ⟨0, 10, 17, 15⟩], ⟨0, 10, 21, 17⟩, [], pgES, ht, List.forall_mem_cons.mpr ⟨Or.inr ⟨by decide, pgEI, B.2.2.2.2.1 _ q_90, pgB_nc B (pgES, pgEI) (by decide)⟩, List.forall_mem_cons.mpr ⟨Or.inr ⟨by decide, pgEA, B.2.2.2.2.1 _ q_91, pgB_nc B (pgES, pgEA) (by decide)⟩, (fun _ h => nomatch h)⟩⟩, by decide, by decide, B.2.2.2.2.1 _ q_92, pgB_nw B (w := .castable pgES pgES) (by decide) rfl, rfl⟩, fun q9 => ?_⟩
      refine j_astore B (L' := [(4, .ref q9), (0, .ref (ad 0)), (1, .int d), (2, .int to), (3, .ref o)]) dL_offer_21 (by decide) rfl ?_
      refine j_iconst B (v := 3) dL_offer_23 (by decide) ?_
      exact j_iret B hr rfl dL_offer_24 (Nat.le_of_ble_eq_true rfl) (Nat.le_of_ble_eq_true rfl) () (by rw [hk1] <;> rfl) (fun H h => by rw [hX, if_neg hne]; exact h)
  · obtain ⟨h0, h1⟩ := hp
    subst h1
    refine j_i2l B dL_offer_8 ?_
    refine j_last B (Wd' := pgWO D cD cC cL A (sp_offer σ d to).2.2 n ad o (vp_updL f 0 (sp_offer σ d to).2.1.toInt64)) (fun H h => h.2.1) 4 rfl pg_in01 dL_offer_9 hAo (fun H H1 h hc hz ho => ⟨h.1.kept (fun k hk => ho _ (h.1.2.2 k hk).2), by rw [pg_c0] at hc; exact hc, hAo⟩) ?_
    refine j_goto B 25 dL_offer_10 (by decide) ?_
    refine j_iconst B (v := 0) dL_offer_25 (by decide) ?_
    exact j_iret B hr rfl dL_offer_26 (Nat.le_of_ble_eq_true rfl) (Nat.le_of_ble_eq_true rfl) () (by rw [h0] <;> rfl) (fun H h => by rw [if_pos h0]; exact h)
/-- answer, with what it throws as a number -/
theorem c_L_answer (l : Launch) (hl : l.stackTraces = false) (D : va_G) (cD cC cI cZ cL : ClassId) (A : Nat → Prop) (σ : pgSt) (n : Nat) (ad : Nat → Nat) (o : Nat) (f : Nat → Int64) (hI : pgI n σ) (d : Int32) (t : Int32) : Met l yL_answer (.codeWith yL_answer cL_answer 5 (some .int) [(0, 10, 13, 13), (0, 10, 17, 17)] :: pgWd) ({ frames := 8, cells := 2, slots := 12, locals := 128 } : Room) (pgPc D (pgTys cD cC cI cZ cL) A (pgWO D cD cC cL A σ n ad o f) [.ref (ad 0), .int d, .int t, .ref o]) (va_Qi (fun (r : Int32) (_ : Unit) => r = pgKB (sp_answer σ d t).1) (fun _ t9 => pgWO D cD cC cL A (sp_answer σ d t).2.2 n ad o (if (sp_answer σ d t).1 = 0 then vp_updL f 0 (sp_answer σ d t).2.1.toInt64 else f) t9.heap) A) 2 12 A := by
  have hsc := @sc_answer σ d t
  refine pg_enterW (own := RL) (by decide) rfl (Nat.le_of_ble_eq_true rfl) (fun p e s m below meth cc9 B hr ht => ?_)
  refine j_fact (fun H h => h.2.2) (fun hAo => ?_)
  refine j_aload_n B dL_answer_0 3 rfl rfl ?_
  refine j_iconst B (v := 0) dL_answer_1 (by decide) ?_
  refine j_aload_n B dL_answer_2 0 rfl rfl ?_
  refine j_iload_n B dL_answer_3 1 rfl rfl ?_
  refine j_iload_n B dL_answer_4 2 rfl rfl ?_
  refine j_wVi B (S := Unit) 2 [.int d, .int t] (WdC' := fun _ => pgR D cD cC (fun z => A z ∧ z ≠ o) (sp_answer σ d t).2.2 n ad) (WdX := pgR D cD cC (fun z => A z ∧ z ≠ o) σ n ad) (fun _ => pgWO D cD cC cL A (sp_answer σ d t).2.2 n ad o f) (pgWO D cD cC cL A σ n ad o f) (c_X2_answer l hl D cD cC cI cZ cL (fun z => A z ∧ z ≠ o) σ n ad hI d t) rfl (fun H h => h.1.x) q_273 q_274 q_275 q_1 q_276 hdX2_answer rfl ⟨Nat.le_of_ble_eq_true rfl, Nat.le_of_ble_eq_true rfl⟩ (Nat.le_of_ble_eq_true rfl) dL_answer_5 rfl ⟨Nat.le_of_ble_eq_true rfl, Nat.le_of_ble_eq_true rfl⟩ (fun _ h => h.1) (fun H h z hz hA => ⟨hA, fun z2 => by have := h.2.1.lt; omega⟩) (fun _ h => h.1) (fun H H1 u h h1 hz hk => ⟨h1, h.2.1.kept (hk o h.2.1.lt (fun z => z.2 rfl)), h.2.2⟩) (fun H H1 h h1 hz hk => ⟨h1, h.2.1.kept (hk o h.2.1.lt (fun z => z.2 rfl)), h.2.2⟩) (fun k hk => ?_) (fun r u hp => ?_)
  · obtain ⟨hk1, hk0⟩ := hk
    have hX : (sp_answer σ d t).2.2 = σ := hsc.2 (by rw [hk1]; exact hk0)
    have hne : ¬ (sp_answer σ d t).1 = 0 := fun z => hk0 (hk1.symm.trans z)
    have hcs : k = 1 ∨ k = 3 := by have := hsc.1; omega
    rcases hcs with rfl | rfl
    · refine ⟨13, ⟨[], ⟨0, 10, 13, 13⟩, [⟨0, 10, 17, 17⟩], pgEI, ht, (fun _ h => nomatch h), by decide, by decide, B.2.2.2.2.1 _ q_90, pgB_nw B (w := .castable pgEI pgEI) (by decide) rfl, rfl⟩, fun q9 => ?_⟩
      refine j_astore B (L' := [(4, .ref q9), (0, .ref (ad 0)), (1, .int d), (2, .int t), (3, .ref o)]) dL_answer_13 (by decide) rfl ?_
      refine j_iconst B (v := 1) dL_answer_15 (by decide) ?_
      exact j_iret B hr rfl dL_answer_16 (Nat.le_of_ble_eq_true rfl) (Nat.le_of_ble_eq_true rfl) () (by rw [hk1] <;> rfl) (fun H h => by rw [hX, if_neg hne]; exact h)
    · refine ⟨17, ⟨[⟨0, 10, 13, 13⟩], ⟨0, 10, 17, 17⟩, [], pgES, ht, List.forall_mem_cons.mpr ⟨Or.inr ⟨by decide, pgEI, B.2.2.2.2.1 _ q_90, pgB_nc B (pgES, pgEI) (by decide)⟩, (fun _ h => nomatch h)⟩, by decide, by decide, B.2.2.2.2.1 _ q_92, pgB_nw B (w := .castable pgES pgES) (by decide) rfl, rfl⟩, fun q9 => ?_⟩
      refine j_astore B (L' := [(4, .ref q9), (0, .ref (ad 0)), (1, .int d), (2, .int t), (3, .ref o)]) dL_answer_17 (by decide) rfl ?_
      refine j_iconst B (v := 2) dL_answer_19 (by decide) ?_
      exact j_iret B hr rfl dL_answer_20 (Nat.le_of_ble_eq_true rfl) (Nat.le_of_ble_eq_true rfl) () (by rw [hk1] <;> rfl) (fun H h => by rw [hX, if_neg hne]; exact h)
  · obtain ⟨h0, h1⟩ := hp
    subst h1
    refine j_i2l B dL_answer_8 ?_
    refine j_last B (Wd' := pgWO D cD cC cL A (sp_answer σ d t).2.2 n ad o (vp_updL f 0 (sp_answer σ d t).2.1.toInt64)) (fun H h => h.2.1) 4 rfl pg_in01 dL_answer_9 hAo (fun H H1 h hc hz ho => ⟨h.1.kept (fun k hk => ho _ (h.1.2.2 k hk).2), by rw [pg_c0] at hc; exact hc, hAo⟩) ?_
    refine j_goto B 21 dL_answer_10 (by decide) ?_
    refine j_iconst B (v := 0) dL_answer_21 (by decide) ?_
    exact j_iret B hr rfl dL_answer_22 (Nat.le_of_ble_eq_true rfl) (Nat.le_of_ble_eq_true rfl) () (by rw [h0] <;> rfl) (fun H h => by rw [if_pos h0]; exact h)
/-- pack, with what it throws as a number -/
theorem c_L_pack (l : Launch) (hl : l.stackTraces = false) (D : va_G) (cD cC cI cZ cL : ClassId) (A : Nat → Prop) (σ : pgSt) (n : Nat) (ad : Nat → Nat) (o : Nat) (f : Nat → Int64) (hI : pgI n σ) (d : Int32) (c : Int32) : Met l yL_pack (.codeWith yL_pack cL_pack 5 (some .int) [(0, 10, 13, 13), (0, 10, 17, 17)] :: pgWd) ({ frames := 8, cells := 4, slots := 24, locals := 128 } : Room) (pgPc D (pgTys cD cC cI cZ cL) A (pgWO D cD cC cL A σ n ad o f) [.ref (ad 0), .int d, .int c, .ref o]) (va_Qi (fun (r : Int32) (_ : Unit) => r = pgKB (sp_pack σ d c).1) (fun _ t9 => pgWO D cD cC cL A (sp_pack σ d c).2.2 n ad o (if (sp_pack σ d c).1 = 0 then vp_updL f 0 (sp_pack σ d c).2.1.toInt64 else f) t9.heap) A) 4 24 A := by
  have hsc := @sc_pack σ d c
  refine pg_enterW (own := RL) (by decide) rfl (Nat.le_of_ble_eq_true rfl) (fun p e s m below meth cc9 B hr ht => ?_)
  refine j_fact (fun H h => h.2.2) (fun hAo => ?_)
  refine j_aload_n B dL_pack_0 3 rfl rfl ?_
  refine j_iconst B (v := 0) dL_pack_1 (by decide) ?_
  refine j_aload_n B dL_pack_2 0 rfl rfl ?_
  refine j_iload_n B dL_pack_3 1 rfl rfl ?_
  refine j_iload_n B dL_pack_4 2 rfl rfl ?_
  refine j_wVi B (S := Unit) 2 [.int d, .int c] (WdC' := fun _ => pgR D cD cC (fun z => A z ∧ z ≠ o) (sp_pack σ d c).2.2 n ad) (WdX := pgR D cD cC (fun z => A z ∧ z ≠ o) σ n ad) (fun _ => pgWO D cD cC cL A (sp_pack σ d c).2.2 n ad o f) (pgWO D cD cC cL A σ n ad o f) (c_X2_pack l hl D cD cC cI cZ cL (fun z => A z ∧ z ≠ o) σ n ad hI d c) rfl (fun H h => h.1.x) q_281 q_282 q_283 q_1 q_284 hdX2_pack rfl ⟨Nat.le_of_ble_eq_true rfl, Nat.le_of_ble_eq_true rfl⟩ (Nat.le_of_ble_eq_true rfl) dL_pack_5 rfl ⟨Nat.le_of_ble_eq_true rfl, Nat.le_of_ble_eq_true rfl⟩ (fun _ h => h.1) (fun H h z hz hA => ⟨hA, fun z2 => by have := h.2.1.lt; omega⟩) (fun _ h => h.1) (fun H H1 u h h1 hz hk => ⟨h1, h.2.1.kept (hk o h.2.1.lt (fun z => z.2 rfl)), h.2.2⟩) (fun H H1 h h1 hz hk => ⟨h1, h.2.1.kept (hk o h.2.1.lt (fun z => z.2 rfl)), h.2.2⟩) (fun k hk => ?_) (fun r u hp => ?_)
  · obtain ⟨hk1, hk0⟩ := hk
    have hX : (sp_pack σ d c).2.2 = σ := hsc.2 (by rw [hk1]; exact hk0)
    have hne : ¬ (sp_pack σ d c).1 = 0 := fun z => hk0 (hk1.symm.trans z)
    have hcs : k = 1 ∨ k = 3 := by have := hsc.1; omega
    rcases hcs with rfl | rfl
    · refine ⟨13, ⟨[], ⟨0, 10, 13, 13⟩, [⟨0, 10, 17, 17⟩], pgEI, ht, (fun _ h => nomatch h), by decide, by decide, B.2.2.2.2.1 _ q_90, pgB_nw B (w := .castable pgEI pgEI) (by decide) rfl, rfl⟩, fun q9 => ?_⟩
      refine j_astore B (L' := [(4, .ref q9), (0, .ref (ad 0)), (1, .int d), (2, .int c), (3, .ref o)]) dL_pack_13 (by decide) rfl ?_
      refine j_iconst B (v := 1) dL_pack_15 (by decide) ?_
      exact j_iret B hr rfl dL_pack_16 (Nat.le_of_ble_eq_true rfl) (Nat.le_of_ble_eq_true rfl) () (by rw [hk1] <;> rfl) (fun H h => by rw [hX, if_neg hne]; exact h)
    · refine ⟨17, ⟨[⟨0, 10, 13, 13⟩], ⟨0, 10, 17, 17⟩, [], pgES, ht, List.forall_mem_cons.mpr ⟨Or.inr ⟨by decide, pgEI, B.2.2.2.2.1 _ q_90, pgB_nc B (pgES, pgEI) (by decide)⟩, (fun _ h => nomatch h)⟩, by decide, by decide, B.2.2.2.2.1 _ q_92, pgB_nw B (w := .castable pgES pgES) (by decide) rfl, rfl⟩, fun q9 => ?_⟩
      refine j_astore B (L' := [(4, .ref q9), (0, .ref (ad 0)), (1, .int d), (2, .int c), (3, .ref o)]) dL_pack_17 (by decide) rfl ?_
      refine j_iconst B (v := 2) dL_pack_19 (by decide) ?_
      exact j_iret B hr rfl dL_pack_20 (Nat.le_of_ble_eq_true rfl) (Nat.le_of_ble_eq_true rfl) () (by rw [hk1] <;> rfl) (fun H h => by rw [hX, if_neg hne]; exact h)
  · obtain ⟨h0, h1⟩ := hp
    subst h1
    refine j_i2l B dL_pack_8 ?_
    refine j_last B (Wd' := pgWO D cD cC cL A (sp_pack σ d c).2.2 n ad o (vp_updL f 0 (sp_pack σ d c).2.1.toInt64)) (fun H h => h.2.1) 4 rfl pg_in01 dL_pack_9 hAo (fun H H1 h hc hz ho => ⟨h.1.kept (fun k hk => ho _ (h.1.2.2 k hk).2), by rw [pg_c0] at hc; exact hc, hAo⟩) ?_
    refine j_goto B 21 dL_pack_10 (by decide) ?_
    refine j_iconst B (v := 0) dL_pack_21 (by decide) ?_
    exact j_iret B hr rfl dL_pack_22 (Nat.le_of_ble_eq_true rfl) (Nat.le_of_ble_eq_true rfl) () (by rw [h0] <;> rfl) (fun H h => by rw [if_pos h0]; exact h)
/-- unpack, with what it throws as a number -/
theorem c_L_unpack (l : Launch) (hl : l.stackTraces = false) (D : va_G) (cD cC cI cZ cL : ClassId) (A : Nat → Prop) (σ : pgSt) (n : Nat) (ad : Nat → Nat) (o : Nat) (f : Nat → Int64) (hI : pgI n σ) (d : Int32) : Met l yL_unpack (.codeWith yL_unpack cL_unpack 4 (some .int) [(0, 9, 12, 13), (0, 9, 15, 17)] :: pgWd) ({ frames := 8, cells := 2, slots := 12, locals := 127 } : Room) (pgPc D (pgTys cD cC cI cZ cL) A (pgWO D cD cC cL A σ n ad o f) [.ref (ad 0), .int d, .ref o]) (va_Qi (fun (r : Int32) (_ : Unit) => r = pgKB (sp_unpack σ d).1) (fun _ t9 => pgWO D cD cC cL A (sp_unpack σ d).2.2 n ad o (if (sp_unpack σ d).1 = 0 then vp_updL f 0 (sp_unpack σ d).2.1.toInt64 else f) t9.heap) A) 2 12 A := by
  have hsc := @sc_unpack σ d
  refine pg_enterW (own := RL) (by decide) rfl (Nat.le_of_ble_eq_true rfl) (fun p e s m below meth cc9 B hr ht => ?_)
  refine j_fact (fun H h => h.2.2) (fun hAo => ?_)
  refine j_aload_n B dL_unpack_0 2 rfl rfl ?_
  refine j_iconst B (v := 0) dL_unpack_1 (by decide) ?_
  refine j_aload_n B dL_unpack_2 0 rfl rfl ?_
  refine j_iload_n B dL_unpack_3 1 rfl rfl ?_
  refine j_wVi B (S := Unit) 1 [.int d] (WdC' := fun _ => pgR D cD cC (fun z => A z ∧ z ≠ o) (sp_unpack σ d).2.2 n ad) (WdX := pgR D cD cC (fun z => A z ∧ z ≠ o) σ n ad) (fun _ => pgWO D cD cC cL A (sp_unpack σ d).2.2 n ad o f) (pgWO D cD cC cL A σ n ad o f) (c_X2_unpack l hl D cD cC cI cZ cL (fun z => A z ∧ z ≠ o) σ n ad hI d) rfl (fun H h => h.1.x) q_306 q_307 q_308 q_1 q_309 hdX2_unpack rfl ⟨Nat.le_of_ble_eq_true rfl, Nat.le_of_ble_eq_true rfl⟩ (Nat.le_of_ble_eq_true rfl) dL_unpack_4 rfl ⟨Nat.le_of_ble_eq_true rfl, Nat.le_of_ble_eq_true rfl⟩ (fun _ h => h.1) (fun H h z hz hA => ⟨hA, fun z2 => by have := h.2.1.lt; omega⟩) (fun _ h => h.1) (fun H H1 u h h1 hz hk => ⟨h1, h.2.1.kept (hk o h.2.1.lt (fun z => z.2 rfl)), h.2.2⟩) (fun H H1 h h1 hz hk => ⟨h1, h.2.1.kept (hk o h.2.1.lt (fun z => z.2 rfl)), h.2.2⟩) (fun k hk => ?_) (fun r u hp => ?_)
  · obtain ⟨hk1, hk0⟩ := hk
    have hX : (sp_unpack σ d).2.2 = σ := hsc.2 (by rw [hk1]; exact hk0)
    have hne : ¬ (sp_unpack σ d).1 = 0 := fun z => hk0 (hk1.symm.trans z)
    have hcs : k = 1 ∨ k = 3 := by have := hsc.1; omega
    rcases hcs with rfl | rfl
    · refine ⟨12, ⟨[], ⟨0, 9, 12, 13⟩, [⟨0, 9, 15, 17⟩], pgEI, ht, (fun _ h => nomatch h), by decide, by decide, B.2.2.2.2.1 _ q_90, pgB_nw B (w := .castable pgEI pgEI) (by decide) rfl, rfl⟩, fun q9 => ?_⟩
      refine j_astore_n B (L' := [(3, .ref q9), (0, .ref (ad 0)), (1, .int d), (2, .ref o)]) dL_unpack_12 rfl (by decide) rfl ?_
      refine j_iconst B (v := 1) dL_unpack_13 (by decide) ?_
      exact j_iret B hr rfl dL_unpack_14 (Nat.le_of_ble_eq_true rfl) (Nat.le_of_ble_eq_true rfl) () (by rw [hk1] <;> rfl) (fun H h => by rw [hX, if_neg hne]; exact h)
    · refine ⟨15, ⟨[⟨0, 9, 12, 13⟩], ⟨0, 9, 15, 17⟩, [], pgES, ht, List.forall_mem_cons.mpr ⟨Or.inr ⟨by decide, pgEI, B.2.2.2.2.1 _ q_90, pgB_nc B (pgES, pgEI) (by decide)⟩, (fun _ h => nomatch h)⟩, by decide, by decide, B.2.2.2.2.1 _ q_92, pgB_nw B (w := .castable pgES pgES) (by decide) rfl, rfl⟩, fun q9 => ?_⟩
      refine j_astore_n B (L' := [(3, .ref q9), (0, .ref (ad 0)), (1, .int d), (2, .ref o)]) dL_unpack_15 rfl (by decide) rfl ?_
      refine j_iconst B (v := 2) dL_unpack_16 (by decide) ?_
      exact j_iret B hr rfl dL_unpack_17 (Nat.le_of_ble_eq_true rfl) (Nat.le_of_ble_eq_true rfl) () (by rw [hk1] <;> rfl) (fun H h => by rw [hX, if_neg hne]; exact h)
  · obtain ⟨h0, h1⟩ := hp
    subst h1
    refine j_i2l B dL_unpack_7 ?_
    refine j_last B (Wd' := pgWO D cD cC cL A (sp_unpack σ d).2.2 n ad o (vp_updL f 0 (sp_unpack σ d).2.1.toInt64)) (fun H h => h.2.1) 4 rfl pg_in01 dL_unpack_8 hAo (fun H H1 h hc hz ho => ⟨h.1.kept (fun k hk => ho _ (h.1.2.2 k hk).2), by rw [pg_c0] at hc; exact hc, hAo⟩) ?_
    refine j_goto B 18 dL_unpack_9 (by decide) ?_
    refine j_iconst B (v := 0) dL_unpack_18 (by decide) ?_
    exact j_iret B hr rfl dL_unpack_19 (Nat.le_of_ble_eq_true rfl) (Nat.le_of_ble_eq_true rfl) () (by rw [h0] <;> rfl) (fun H h => by rw [if_pos h0]; exact h)
/-- seal, with what it throws as a number -/
theorem c_L_seal (l : Launch) (hl : l.stackTraces = false) (D : va_G) (cD cC cI cZ cL : ClassId) (A : Nat → Prop) (σ : pgSt) (n : Nat) (ad : Nat → Nat) (o : Nat) (f : Nat → Int64) (hI : pgI n σ) (c : Int32) : Met l yL_seal (.codeWith yL_seal cL_seal 4 (some .int) [(0, 9, 12, 13), (0, 9, 15, 17)] :: pgWd) ({ frames := 8, cells := 2, slots := 12, locals := 126 } : Room) (pgPc D (pgTys cD cC cI cZ cL) A (pgWO D cD cC cL A σ n ad o f) [.ref (ad 0), .int c, .ref o]) (va_Qi (fun (r : Int32) (_ : Unit) => r = pgKB (sp_seal σ c).1) (fun _ t9 => pgWO D cD cC cL A (sp_seal σ c).2.2 n ad o (if (sp_seal σ c).1 = 0 then vp_updL f 0 (sp_seal σ c).2.1.toInt64 else f) t9.heap) A) 2 12 A := by
  have hsc := @sc_seal σ c
  refine pg_enterW (own := RL) (by decide) rfl (Nat.le_of_ble_eq_true rfl) (fun p e s m below meth cc9 B hr ht => ?_)
  refine j_fact (fun H h => h.2.2) (fun hAo => ?_)
  refine j_aload_n B dL_seal_0 2 rfl rfl ?_
  refine j_iconst B (v := 0) dL_seal_1 (by decide) ?_
  refine j_aload_n B dL_seal_2 0 rfl rfl ?_
  refine j_iload_n B dL_seal_3 1 rfl rfl ?_
  refine j_wVi B (S := Unit) 1 [.int c] (WdC' := fun _ => pgR D cD cC (fun z => A z ∧ z ≠ o) (sp_seal σ c).2.2 n ad) (WdX := pgR D cD cC (fun z => A z ∧ z ≠ o) σ n ad) (fun _ => pgWO D cD cC cL A (sp_seal σ c).2.2 n ad o f) (pgWO D cD cC cL A σ n ad o f) (c_X2_seal l hl D cD cC cI cZ cL (fun z => A z ∧ z ≠ o) σ n ad hI c) rfl (fun H h => h.1.x) q_314 q_315 q_316 q_1 q_317 hdX2_seal rfl ⟨Nat.le_of_ble_eq_true rfl, Nat.le_of_ble_eq_true rfl⟩ (Nat.le_of_ble_eq_true rfl) dL_seal_4 rfl ⟨Nat.le_of_ble_eq_true rfl, Nat.le_of_ble_eq_true rfl⟩ (fun _ h => h.1) (fun H h z hz hA => ⟨hA, fun z2 => by have := h.2.1.lt; omega⟩) (fun _ h => h.1) (fun H H1 u h h1 hz hk => ⟨h1, h.2.1.kept (hk o h.2.1.lt (fun z => z.2 rfl)), h.2.2⟩) (fun H H1 h h1 hz hk => ⟨h1, h.2.1.kept (hk o h.2.1.lt (fun z => z.2 rfl)), h.2.2⟩) (fun k hk => ?_) (fun r u hp => ?_)
  · obtain ⟨hk1, hk0⟩ := hk
    have hX : (sp_seal σ c).2.2 = σ := hsc.2 (by rw [hk1]; exact hk0)
    have hne : ¬ (sp_seal σ c).1 = 0 := fun z => hk0 (hk1.symm.trans z)
    have hcs : k = 1 ∨ k = 3 := by have := hsc.1; omega
    rcases hcs with rfl | rfl
    · refine ⟨12, ⟨[], ⟨0, 9, 12, 13⟩, [⟨0, 9, 15, 17⟩], pgEI, ht, (fun _ h => nomatch h), by decide, by decide, B.2.2.2.2.1 _ q_90, pgB_nw B (w := .castable pgEI pgEI) (by decide) rfl, rfl⟩, fun q9 => ?_⟩
      refine j_astore_n B (L' := [(3, .ref q9), (0, .ref (ad 0)), (1, .int c), (2, .ref o)]) dL_seal_12 rfl (by decide) rfl ?_
      refine j_iconst B (v := 1) dL_seal_13 (by decide) ?_
      exact j_iret B hr rfl dL_seal_14 (Nat.le_of_ble_eq_true rfl) (Nat.le_of_ble_eq_true rfl) () (by rw [hk1] <;> rfl) (fun H h => by rw [hX, if_neg hne]; exact h)
    · refine ⟨15, ⟨[⟨0, 9, 12, 13⟩], ⟨0, 9, 15, 17⟩, [], pgES, ht, List.forall_mem_cons.mpr ⟨Or.inr ⟨by decide, pgEI, B.2.2.2.2.1 _ q_90, pgB_nc B (pgES, pgEI) (by decide)⟩, (fun _ h => nomatch h)⟩, by decide, by decide, B.2.2.2.2.1 _ q_92, pgB_nw B (w := .castable pgES pgES) (by decide) rfl, rfl⟩, fun q9 => ?_⟩
      refine j_astore_n B (L' := [(3, .ref q9), (0, .ref (ad 0)), (1, .int c), (2, .ref o)]) dL_seal_15 rfl (by decide) rfl ?_
      refine j_iconst B (v := 2) dL_seal_16 (by decide) ?_
      exact j_iret B hr rfl dL_seal_17 (Nat.le_of_ble_eq_true rfl) (Nat.le_of_ble_eq_true rfl) () (by rw [hk1] <;> rfl) (fun H h => by rw [hX, if_neg hne]; exact h)
  · obtain ⟨h0, h1⟩ := hp
    subst h1
    refine j_i2l B dL_seal_7 ?_
    refine j_last B (Wd' := pgWO D cD cC cL A (sp_seal σ c).2.2 n ad o (vp_updL f 0 (sp_seal σ c).2.1.toInt64)) (fun H h => h.2.1) 4 rfl pg_in01 dL_seal_8 hAo (fun H H1 h hc hz ho => ⟨h.1.kept (fun k hk => ho _ (h.1.2.2 k hk).2), by rw [pg_c0] at hc; exact hc, hAo⟩) ?_
    refine j_goto B 18 dL_seal_9 (by decide) ?_
    refine j_iconst B (v := 0) dL_seal_18 (by decide) ?_
    exact j_iret B hr rfl dL_seal_19 (Nat.le_of_ble_eq_true rfl) (Nat.le_of_ble_eq_true rfl) () (by rw [h0] <;> rfl) (fun H h => by rw [if_pos h0]; exact h)
/-- open, with what it throws as a number -/
theorem c_L_open (l : Launch) (hl : l.stackTraces = false) (D : va_G) (cD cC cI cZ cL : ClassId) (A : Nat → Prop) (σ : pgSt) (n : Nat) (ad : Nat → Nat) (o : Nat) (f : Nat → Int64) (hI : pgI n σ) (c : Int32) (k0 : Int32) : Met l yL_open (.codeWith yL_open cL_open 5 (some .int) [(0, 10, 13, 13), (0, 10, 17, 15), (0, 10, 21, 17)] :: pgWd) ({ frames := 8, cells := 2, slots := 12, locals := 128 } : Room) (pgPc D (pgTys cD cC cI cZ cL) A (pgWO D cD cC cL A σ n ad o f) [.ref (ad 0), .int c, .int k0, .ref o]) (va_Qi (fun (r : Int32) (_ : Unit) => r = nI (sp_open σ c k0).1) (fun _ t9 => pgWO D cD cC cL A (sp_open σ c k0).2.2 n ad o (if (sp_open σ c k0).1 = 0 then vp_updL f 0 (sp_open σ c k0).2.1.toInt64 else f) t9.heap) A) 2 12 A := by
  have hsc := @sc_open σ c k0
  refine pg_enterW (own := RL) (by decide) rfl (Nat.le_of_ble_eq_true rfl) (fun p e s m below meth cc9 B hr ht => ?_)
  refine j_fact (fun H h => h.2.2) (fun hAo => ?_)
  refine j_aload_n B dL_open_0 3 rfl rfl ?_
  refine j_iconst B (v := 0) dL_open_1 (by decide) ?_
  refine j_aload_n B dL_open_2 0 rfl rfl ?_
  refine j_iload_n B dL_open_3 1 rfl rfl ?_
  refine j_iload_n B dL_open_4 2 rfl rfl ?_
  refine j_wVi B (S := Unit) 2 [.int c, .int k0] (WdC' := fun _ => pgR D cD cC (fun z => A z ∧ z ≠ o) (sp_open σ c k0).2.2 n ad) (WdX := pgR D cD cC (fun z => A z ∧ z ≠ o) σ n ad) (fun _ => pgWO D cD cC cL A (sp_open σ c k0).2.2 n ad o f) (pgWO D cD cC cL A σ n ad o f) (c_X2_open l hl D cD cC cI cZ cL (fun z => A z ∧ z ≠ o) σ n ad hI c k0) rfl (fun H h => h.1.x) q_322 q_323 q_324 q_1 q_325 hdX2_open rfl ⟨Nat.le_of_ble_eq_true rfl, Nat.le_of_ble_eq_true rfl⟩ (Nat.le_of_ble_eq_true rfl) dL_open_5 rfl ⟨Nat.le_of_ble_eq_true rfl, Nat.le_of_ble_eq_true rfl⟩ (fun _ h => h.1) (fun H h z hz hA => ⟨hA, fun z2 => by have := h.2.1.lt; omega⟩) (fun _ h => h.1) (fun H H1 u h h1 hz hk => ⟨h1, h.2.1.kept (hk o h.2.1.lt (fun z => z.2 rfl)), h.2.2⟩) (fun H H1 h h1 hz hk => ⟨h1, h.2.1.kept (hk o h.2.1.lt (fun z => z.2 rfl)), h.2.2⟩) (fun k hk => ?_) (fun r u hp => ?_)
  · obtain ⟨hk1, hk0⟩ := hk
    have hX : (sp_open σ c k0).2.2 = σ := hsc.2 (by rw [hk1]; exact hk0)
    have hne : ¬ (sp_open σ c k0).1 = 0 := fun z => hk0 (hk1.symm.trans z)
    have hcs : k = 1 ∨ k = 2 ∨ k = 3 := by have := hsc.1; omega
    rcases hcs with rfl | rfl | rfl
    · refine ⟨13, ⟨[], ⟨0, 10, 13, 13⟩, [⟨0, 10, 17, 15⟩, ⟨0, 10, 21, 17⟩], pgEI, ht, (fun _ h => nomatch h), by decide, by decide, B.2.2.2.2.1 _ q_90, pgB_nw B (w := .castable pgEI pgEI) (by decide) rfl, rfl⟩, fun q9 => ?_⟩
      refine j_astore B (L' := [(4, .ref q9), (0, .ref (ad 0)), (1, .int c), (2, .int k0), (3, .ref o)]) dL_open_13 (by decide) rfl ?_
      refine j_iconst B (v := 1) dL_open_15 (by decide) ?_
      exact j_iret B hr rfl dL_open_16 (Nat.le_of_ble_eq_true rfl) (Nat.le_of_ble_eq_true rfl) () (by rw [hk1] <;> rfl) (fun H h => by rw [hX, if_neg hne]; exact h)
    · refine ⟨17, ⟨[⟨0, 10, 13, 13⟩], ⟨0, 10, 17, 15⟩, [⟨0, 10, 21, 17⟩], pgEA, ht, List.forall_mem_cons.mpr ⟨Or.inr ⟨by decide, pgEI, B.2.2.2.2.1 _ q_90, pgB_nc B (pgEA, pgEI) (by decide)⟩, (fun _ h => nomatch h)⟩, by decide, by decide, B.2.2.2.2.1 _ q_91, pgB_nw B (w := .castable pgEA pgEA) (by decide) rfl, rfl⟩, fun q9 => ?_⟩
      refine j_astore B (L' := [(4, .ref q9), (0, .ref (ad 0)), (1, .int c), (2, .int k0), (3, .ref o)]) dL_open_17 (by decide) rfl ?_
      refine j_iconst B (v := 2) dL_open_19 (by decide) ?_
      exact j_iret B hr rfl dL_open_20 (Nat.le_of_ble_eq_true rfl) (Nat.le_of_ble_eq_true rfl) () (by rw [hk1] <;> rfl) (fun H h => by rw [hX, if_neg hne]; exact h)
    · refine ⟨21, ⟨[⟨0, 10, 13, 13⟩, ⟨0, 10, 17, 15⟩], ⟨0, 10, 21, 17⟩, [], pgES, ht, List.forall_mem_cons.mpr ⟨Or.inr ⟨by decide, pgEI, B.2.2.2.2.1 _ q_90, pgB_nc B (pgES, pgEI) (by decide)⟩, List.forall_mem_cons.mpr ⟨Or.inr ⟨by decide, pgEA, B.2.2.2.2.1 _ q_91, pgB_nc B (pgES, pgEA) (by decide)⟩, (fun _ h => nomatch h)⟩⟩, by decide, by decide, B.2.2.2.2.1 _ q_92, pgB_nw B (w := .castable pgES pgES) (by decide) rfl, rfl⟩, fun q9 => ?_⟩
      refine j_astore B (L' := [(4, .ref q9), (0, .ref (ad 0)), (1, .int c), (2, .int k0), (3, .ref o)]) dL_open_21 (by decide) rfl ?_
      refine j_iconst B (v := 3) dL_open_23 (by decide) ?_
      exact j_iret B hr rfl dL_open_24 (Nat.le_of_ble_eq_true rfl) (Nat.le_of_ble_eq_true rfl) () (by rw [hk1] <;> rfl) (fun H h => by rw [hX, if_neg hne]; exact h)
  · obtain ⟨h0, h1⟩ := hp
    subst h1
    refine j_i2l B dL_open_8 ?_
    refine j_last B (Wd' := pgWO D cD cC cL A (sp_open σ c k0).2.2 n ad o (vp_updL f 0 (sp_open σ c k0).2.1.toInt64)) (fun H h => h.2.1) 4 rfl pg_in01 dL_open_9 hAo (fun H H1 h hc hz ho => ⟨h.1.kept (fun k hk => ho _ (h.1.2.2 k hk).2), by rw [pg_c0] at hc; exact hc, hAo⟩) ?_
    refine j_goto B 25 dL_open_10 (by decide) ?_
    refine j_iconst B (v := 0) dL_open_25 (by decide) ?_
    exact j_iret B hr rfl dL_open_26 (Nat.le_of_ble_eq_true rfl) (Nat.le_of_ble_eq_true rfl) () (by rw [h0] <;> rfl) (fun H h => by rw [if_pos h0]; exact h)
/-- carry, with what it throws as a number -/
theorem c_L_carry (l : Launch) (hl : l.stackTraces = false) (D : va_G) (cD cC cI cZ cL : ClassId) (A : Nat → Prop) (σ : pgSt) (n : Nat) (ad : Nat → Nat) (o : Nat) (f : Nat → Int64) (hI : pgI n σ) (c : Int32) (to : Int32) : Met l yL_carry (.codeWith yL_carry cL_carry 5 (some .int) [(0, 10, 13, 13), (0, 10, 17, 15), (0, 10, 21, 17)] :: pgWd) ({ frames := 8, cells := 3, slots := 18, locals := 128 } : Room) (pgPc D (pgTys cD cC cI cZ cL) A (pgWO D cD cC cL A σ n ad o f) [.ref (ad 0), .int c, .int to, .ref o]) (va_Qi (fun (r : Int32) (_ : Unit) => r = nI (sp_carry σ c to).1) (fun _ t9 => pgWO D cD cC cL A (sp_carry σ c to).2.2 n ad o (if (sp_carry σ c to).1 = 0 then vp_updL f 0 (sp_carry σ c to).2.1.toInt64 else f) t9.heap) A) 3 18 A := by
  have hsc := @sc_carry σ c to
  refine pg_enterW (own := RL) (by decide) rfl (Nat.le_of_ble_eq_true rfl) (fun p e s m below meth cc9 B hr ht => ?_)
  refine j_fact (fun H h => h.2.2) (fun hAo => ?_)
  refine j_aload_n B dL_carry_0 3 rfl rfl ?_
  refine j_iconst B (v := 0) dL_carry_1 (by decide) ?_
  refine j_aload_n B dL_carry_2 0 rfl rfl ?_
  refine j_iload_n B dL_carry_3 1 rfl rfl ?_
  refine j_iload_n B dL_carry_4 2 rfl rfl ?_
  refine j_wVi B (S := Unit) 2 [.int c, .int to] (WdC' := fun _ => pgR D cD cC (fun z => A z ∧ z ≠ o) (sp_carry σ c to).2.2 n ad) (WdX := pgR D cD cC (fun z => A z ∧ z ≠ o) σ n ad) (fun _ => pgWO D cD cC cL A (sp_carry σ c to).2.2 n ad o f) (pgWO D cD cC cL A σ n ad o f) (c_X2_carry l hl D cD cC cI cZ cL (fun z => A z ∧ z ≠ o) σ n ad hI c to) rfl (fun H h => h.1.x) q_331 q_332 q_333 q_1 q_334 hdX2_carry rfl ⟨Nat.le_of_ble_eq_true rfl, Nat.le_of_ble_eq_true rfl⟩ (Nat.le_of_ble_eq_true rfl) dL_carry_5 rfl ⟨Nat.le_of_ble_eq_true rfl, Nat.le_of_ble_eq_true rfl⟩ (fun _ h => h.1) (fun H h z hz hA => ⟨hA, fun z2 => by have := h.2.1.lt; omega⟩) (fun _ h => h.1) (fun H H1 u h h1 hz hk => ⟨h1, h.2.1.kept (hk o h.2.1.lt (fun z => z.2 rfl)), h.2.2⟩) (fun H H1 h h1 hz hk => ⟨h1, h.2.1.kept (hk o h.2.1.lt (fun z => z.2 rfl)), h.2.2⟩) (fun k hk => ?_) (fun r u hp => ?_)
  · obtain ⟨hk1, hk0⟩ := hk
    have hX : (sp_carry σ c to).2.2 = σ := hsc.2 (by rw [hk1]; exact hk0)
    have hne : ¬ (sp_carry σ c to).1 = 0 := fun z => hk0 (hk1.symm.trans z)
    have hcs : k = 1 ∨ k = 2 ∨ k = 3 := by have := hsc.1; omega
    rcases hcs with rfl | rfl | rfl
    · refine ⟨13, ⟨[], ⟨0, 10, 13, 13⟩, [⟨0, 10, 17, 15⟩, ⟨0, 10, 21, 17⟩], pgEI, ht, (fun _ h => nomatch h), by decide, by decide, B.2.2.2.2.1 _ q_90, pgB_nw B (w := .castable pgEI pgEI) (by decide) rfl, rfl⟩, fun q9 => ?_⟩
      refine j_astore B (L' := [(4, .ref q9), (0, .ref (ad 0)), (1, .int c), (2, .int to), (3, .ref o)]) dL_carry_13 (by decide) rfl ?_
      refine j_iconst B (v := 1) dL_carry_15 (by decide) ?_
      exact j_iret B hr rfl dL_carry_16 (Nat.le_of_ble_eq_true rfl) (Nat.le_of_ble_eq_true rfl) () (by rw [hk1] <;> rfl) (fun H h => by rw [hX, if_neg hne]; exact h)
    · refine ⟨17, ⟨[⟨0, 10, 13, 13⟩], ⟨0, 10, 17, 15⟩, [⟨0, 10, 21, 17⟩], pgEA, ht, List.forall_mem_cons.mpr ⟨Or.inr ⟨by decide, pgEI, B.2.2.2.2.1 _ q_90, pgB_nc B (pgEA, pgEI) (by decide)⟩, (fun _ h => nomatch h)⟩, by decide, by decide, B.2.2.2.2.1 _ q_91, pgB_nw B (w := .castable pgEA pgEA) (by decide) rfl, rfl⟩, fun q9 => ?_⟩
      refine j_astore B (L' := [(4, .ref q9), (0, .ref (ad 0)), (1, .int c), (2, .int to), (3, .ref o)]) dL_carry_17 (by decide) rfl ?_
      refine j_iconst B (v := 2) dL_carry_19 (by decide) ?_
      exact j_iret B hr rfl dL_carry_20 (Nat.le_of_ble_eq_true rfl) (Nat.le_of_ble_eq_true rfl) () (by rw [hk1] <;> rfl) (fun H h => by rw [hX, if_neg hne]; exact h)
    · refine ⟨21, ⟨[⟨0, 10, 13, 13⟩, ⟨0, 10, 17, 15⟩], ⟨0, 10, 21, 17⟩, [], pgES, ht, List.forall_mem_cons.mpr ⟨Or.inr ⟨by decide, pgEI, B.2.2.2.2.1 _ q_90, pgB_nc B (pgES, pgEI) (by decide)⟩, List.forall_mem_cons.mpr ⟨Or.inr ⟨by decide, pgEA, B.2.2.2.2.1 _ q_91, pgB_nc B (pgES, pgEA) (by decide)⟩, (fun _ h => nomatch h)⟩⟩, by decide, by decide, B.2.2.2.2.1 _ q_92, pgB_nw B (w := .castable pgES pgES) (by decide) rfl, rfl⟩, fun q9 => ?_⟩
      refine j_astore B (L' := [(4, .ref q9), (0, .ref (ad 0)), (1, .int c), (2, .int to), (3, .ref o)]) dL_carry_21 (by decide) rfl ?_
      refine j_iconst B (v := 3) dL_carry_23 (by decide) ?_
      exact j_iret B hr rfl dL_carry_24 (Nat.le_of_ble_eq_true rfl) (Nat.le_of_ble_eq_true rfl) () (by rw [hk1] <;> rfl) (fun H h => by rw [hX, if_neg hne]; exact h)
  · obtain ⟨h0, h1⟩ := hp
    subst h1
    refine j_i2l B dL_carry_8 ?_
    refine j_last B (Wd' := pgWO D cD cC cL A (sp_carry σ c to).2.2 n ad o (vp_updL f 0 (sp_carry σ c to).2.1.toInt64)) (fun H h => h.2.1) 4 rfl pg_in01 dL_carry_9 hAo (fun H H1 h hc hz ho => ⟨h.1.kept (fun k hk => ho _ (h.1.2.2 k hk).2), by rw [pg_c0] at hc; exact hc, hAo⟩) ?_
    refine j_goto B 25 dL_carry_10 (by decide) ?_
    refine j_iconst B (v := 0) dL_carry_25 (by decide) ?_
    exact j_iret B hr rfl dL_carry_26 (Nat.le_of_ble_eq_true rfl) (Nat.le_of_ble_eq_true rfl) () (by rw [h0] <;> rfl) (fun H h => by rw [if_pos h0]; exact h)
/-- wipe, with what it throws as a number -/
theorem c_L_wipe (l : Launch) (hl : l.stackTraces = false) (D : va_G) (cD cC cI cZ cL : ClassId) (A : Nat → Prop) (σ : pgSt) (n : Nat) (ad : Nat → Nat) (o : Nat) (f : Nat → Int64) (hI : pgI n σ) (d : Int32) (way : Int32) (w : Int32) : Met l yL_wipe (.codeWith yL_wipe cL_wipe 6 (some .int) [(0, 12, 15, 13), (0, 12, 19, 15), (0, 12, 23, 17)] :: pgWd) ({ frames := 8, cells := 5, slots := 30, locals := 129 } : Room) (pgPc D (pgTys cD cC cI cZ cL) A (pgWO D cD cC cL A σ n ad o f) [.ref (ad 0), .int d, .int way, .int w, .ref o]) (va_Qi (fun (r : Int32) (_ : Unit) => r = nI (sp_wipe σ d way w).1) (fun _ t9 => pgWO D cD cC cL A (sp_wipe σ d way w).2.2 n ad o (if (sp_wipe σ d way w).1 = 0 then vp_updL f 0 (sp_wipe σ d way w).2.1.toInt64 else f) t9.heap) A) 5 30 A := by
  have hsc := @sc_wipe σ d way w
  refine pg_enterW (own := RL) (by decide) rfl (Nat.le_of_ble_eq_true rfl) (fun p e s m below meth cc9 B hr ht => ?_)
  refine j_fact (fun H h => h.2.2) (fun hAo => ?_)
  refine j_aload B dL_wipe_0 4 rfl ?_
  refine j_iconst B (v := 0) dL_wipe_2 (by decide) ?_
  refine j_aload_n B dL_wipe_3 0 rfl rfl ?_
  refine j_iload_n B dL_wipe_4 1 rfl rfl ?_
  refine j_iload_n B dL_wipe_5 2 rfl rfl ?_
  refine j_iload_n B dL_wipe_6 3 rfl rfl ?_
  refine j_wVi B (S := Unit) 3 [.int d, .int way, .int w] (WdC' := fun _ => pgR D cD cC (fun z => A z ∧ z ≠ o) (sp_wipe σ d way w).2.2 n ad) (WdX := pgR D cD cC (fun z => A z ∧ z ≠ o) σ n ad) (fun _ => pgWO D cD cC cL A (sp_wipe σ d way w).2.2 n ad o f) (pgWO D cD cC cL A σ n ad o f) (c_X2_wipe l hl D cD cC cI cZ cL (fun z => A z ∧ z ≠ o) σ n ad hI d way w) rfl (fun H h => h.1.x) q_344 q_345 q_346 q_1 q_347 hdX2_wipe rfl ⟨Nat.le_of_ble_eq_true rfl, Nat.le_of_ble_eq_true rfl⟩ (Nat.le_of_ble_eq_true rfl) dL_wipe_7 rfl ⟨Nat.le_of_ble_eq_true rfl, Nat.le_of_ble_eq_true rfl⟩ (fun _ h => h.1) (fun H h z hz hA => ⟨hA, fun z2 => by have := h.2.1.lt; omega⟩) (fun _ h => h.1) (fun H H1 u h h1 hz hk => ⟨h1, h.2.1.kept (hk o h.2.1.lt (fun z => z.2 rfl)), h.2.2⟩) (fun H H1 h h1 hz hk => ⟨h1, h.2.1.kept (hk o h.2.1.lt (fun z => z.2 rfl)), h.2.2⟩) (fun k hk => ?_) (fun r u hp => ?_)
  · obtain ⟨hk1, hk0⟩ := hk
    have hX : (sp_wipe σ d way w).2.2 = σ := hsc.2 (by rw [hk1]; exact hk0)
    have hne : ¬ (sp_wipe σ d way w).1 = 0 := fun z => hk0 (hk1.symm.trans z)
    have hcs : k = 1 ∨ k = 2 ∨ k = 3 := by have := hsc.1; omega
    rcases hcs with rfl | rfl | rfl
    · refine ⟨15, ⟨[], ⟨0, 12, 15, 13⟩, [⟨0, 12, 19, 15⟩, ⟨0, 12, 23, 17⟩], pgEI, ht, (fun _ h => nomatch h), by decide, by decide, B.2.2.2.2.1 _ q_90, pgB_nw B (w := .castable pgEI pgEI) (by decide) rfl, rfl⟩, fun q9 => ?_⟩
      refine j_astore B (L' := [(5, .ref q9), (0, .ref (ad 0)), (1, .int d), (2, .int way), (3, .int w), (4, .ref o)]) dL_wipe_15 (by decide) rfl ?_
      refine j_iconst B (v := 1) dL_wipe_17 (by decide) ?_
      exact j_iret B hr rfl dL_wipe_18 (Nat.le_of_ble_eq_true rfl) (Nat.le_of_ble_eq_true rfl) () (by rw [hk1] <;> rfl) (fun H h => by rw [hX, if_neg hne]; exact h)
    · refine ⟨19, ⟨[⟨0, 12, 15, 13⟩], ⟨0, 12, 19, 15⟩, [⟨0, 12, 23, 17⟩], pgEA, ht, List.forall_mem_cons.mpr ⟨Or.inr ⟨by decide, pgEI, B.2.2.2.2.1 _ q_90, pgB_nc B (pgEA, pgEI) (by decide)⟩, (fun _ h => nomatch h)⟩, by decide, by decide, B.2.2.2.2.1 _ q_91, pgB_nw B (w := .castable pgEA pgEA) (by decide) rfl, rfl⟩, fun q9 => ?_⟩
      refine j_astore B (L' := [(5, .ref q9), (0, .ref (ad 0)), (1, .int d), (2, .int way), (3, .int w), (4, .ref o)]) dL_wipe_19 (by decide) rfl ?_
      refine j_iconst B (v := 2) dL_wipe_21 (by decide) ?_
      exact j_iret B hr rfl dL_wipe_22 (Nat.le_of_ble_eq_true rfl) (Nat.le_of_ble_eq_true rfl) () (by rw [hk1] <;> rfl) (fun H h => by rw [hX, if_neg hne]; exact h)
    · refine ⟨23, ⟨[⟨0, 12, 15, 13⟩, ⟨0, 12, 19, 15⟩], ⟨0, 12, 23, 17⟩, [], pgES, ht, List.forall_mem_cons.mpr ⟨Or.inr ⟨by decide, pgEI, B.2.2.2.2.1 _ q_90, pgB_nc B (pgES, pgEI) (by decide)⟩, List.forall_mem_cons.mpr ⟨Or.inr ⟨by decide, pgEA, B.2.2.2.2.1 _ q_91, pgB_nc B (pgES, pgEA) (by decide)⟩, (fun _ h => nomatch h)⟩⟩, by decide, by decide, B.2.2.2.2.1 _ q_92, pgB_nw B (w := .castable pgES pgES) (by decide) rfl, rfl⟩, fun q9 => ?_⟩
      refine j_astore B (L' := [(5, .ref q9), (0, .ref (ad 0)), (1, .int d), (2, .int way), (3, .int w), (4, .ref o)]) dL_wipe_23 (by decide) rfl ?_
      refine j_iconst B (v := 3) dL_wipe_25 (by decide) ?_
      exact j_iret B hr rfl dL_wipe_26 (Nat.le_of_ble_eq_true rfl) (Nat.le_of_ble_eq_true rfl) () (by rw [hk1] <;> rfl) (fun H h => by rw [hX, if_neg hne]; exact h)
  · obtain ⟨h0, h1⟩ := hp
    subst h1
    refine j_i2l B dL_wipe_10 ?_
    refine j_last B (Wd' := pgWO D cD cC cL A (sp_wipe σ d way w).2.2 n ad o (vp_updL f 0 (sp_wipe σ d way w).2.1.toInt64)) (fun H h => h.2.1) 4 rfl pg_in01 dL_wipe_11 hAo (fun H H1 h hc hz ho => ⟨h.1.kept (fun k hk => ho _ (h.1.2.2 k hk).2), by rw [pg_c0] at hc; exact hc, hAo⟩) ?_
    refine j_goto B 27 dL_wipe_12 (by decide) ?_
    refine j_iconst B (v := 0) dL_wipe_27 (by decide) ?_
    exact j_iret B hr rfl dL_wipe_28 (Nat.le_of_ble_eq_true rfl) (Nat.le_of_ble_eq_true rfl) () (by rw [h0] <;> rfl) (fun H h => by rw [if_pos h0]; exact h)
/-- smash, with what it throws as a number -/
theorem c_L_smash (l : Launch) (hl : l.stackTraces = false) (D : va_G) (cD cC cI cZ cL : ClassId) (A : Nat → Prop) (σ : pgSt) (n : Nat) (ad : Nat → Nat) (o : Nat) (f : Nat → Int64) (hI : pgI n σ) (d : Int32) (w : Int32) : Met l yL_smash (.codeWith yL_smash cL_smash 5 (some .int) [(0, 10, 13, 13), (0, 10, 17, 15), (0, 10, 21, 17)] :: pgWd) ({ frames := 8, cells := 5, slots := 30, locals := 128 } : Room) (pgPc D (pgTys cD cC cI cZ cL) A (pgWO D cD cC cL A σ n ad o f) [.ref (ad 0), .int d, .int w, .ref o]) (va_Qi (fun (r : Int32) (_ : Unit) => r = nI (sp_smash σ d w).1) (fun _ t9 => pgWO D cD cC cL A (sp_smash σ d w).2.2 n ad o (if (sp_smash σ d w).1 = 0 then vp_updL f 0 (sp_smash σ d w).2.1.toInt64 else f) t9.heap) A) 5 30 A := by
  have hsc := @sc_smash σ d w
  refine pg_enterW (own := RL) (by decide) rfl (Nat.le_of_ble_eq_true rfl) (fun p e s m below meth cc9 B hr ht => ?_)
  refine j_fact (fun H h => h.2.2) (fun hAo => ?_)
  refine j_aload_n B dL_smash_0 3 rfl rfl ?_
  refine j_iconst B (v := 0) dL_smash_1 (by decide) ?_
  refine j_aload_n B dL_smash_2 0 rfl rfl ?_
  refine j_iload_n B dL_smash_3 1 rfl rfl ?_
  refine j_iload_n B dL_smash_4 2 rfl rfl ?_
  refine j_wVi B (S := Unit) 2 [.int d, .int w] (WdC' := fun _ => pgR D cD cC (fun z => A z ∧ z ≠ o) (sp_smash σ d w).2.2 n ad) (WdX := pgR D cD cC (fun z => A z ∧ z ≠ o) σ n ad) (fun _ => pgWO D cD cC cL A (sp_smash σ d w).2.2 n ad o f) (pgWO D cD cC cL A σ n ad o f) (c_X2_smash l hl D cD cC cI cZ cL (fun z => A z ∧ z ≠ o) σ n ad hI d w) rfl (fun H h => h.1.x) q_366 q_367 q_368 q_1 q_369 hdX2_smash rfl ⟨Nat.le_of_ble_eq_true rfl, Nat.le_of_ble_eq_true rfl⟩ (Nat.le_of_ble_eq_true rfl) dL_smash_5 rfl ⟨Nat.le_of_ble_eq_true rfl, Nat.le_of_ble_eq_true rfl⟩ (fun _ h => h.1) (fun H h z hz hA => ⟨hA, fun z2 => by have := h.2.1.lt; omega⟩) (fun _ h => h.1) (fun H H1 u h h1 hz hk => ⟨h1, h.2.1.kept (hk o h.2.1.lt (fun z => z.2 rfl)), h.2.2⟩) (fun H H1 h h1 hz hk => ⟨h1, h.2.1.kept (hk o h.2.1.lt (fun z => z.2 rfl)), h.2.2⟩) (fun k hk => ?_) (fun r u hp => ?_)
  · obtain ⟨hk1, hk0⟩ := hk
    have hX : (sp_smash σ d w).2.2 = σ := hsc.2 (by rw [hk1]; exact hk0)
    have hne : ¬ (sp_smash σ d w).1 = 0 := fun z => hk0 (hk1.symm.trans z)
    have hcs : k = 1 ∨ k = 2 ∨ k = 3 := by have := hsc.1; omega
    rcases hcs with rfl | rfl | rfl
    · refine ⟨13, ⟨[], ⟨0, 10, 13, 13⟩, [⟨0, 10, 17, 15⟩, ⟨0, 10, 21, 17⟩], pgEI, ht, (fun _ h => nomatch h), by decide, by decide, B.2.2.2.2.1 _ q_90, pgB_nw B (w := .castable pgEI pgEI) (by decide) rfl, rfl⟩, fun q9 => ?_⟩
      refine j_astore B (L' := [(4, .ref q9), (0, .ref (ad 0)), (1, .int d), (2, .int w), (3, .ref o)]) dL_smash_13 (by decide) rfl ?_
      refine j_iconst B (v := 1) dL_smash_15 (by decide) ?_
      exact j_iret B hr rfl dL_smash_16 (Nat.le_of_ble_eq_true rfl) (Nat.le_of_ble_eq_true rfl) () (by rw [hk1] <;> rfl) (fun H h => by rw [hX, if_neg hne]; exact h)
    · refine ⟨17, ⟨[⟨0, 10, 13, 13⟩], ⟨0, 10, 17, 15⟩, [⟨0, 10, 21, 17⟩], pgEA, ht, List.forall_mem_cons.mpr ⟨Or.inr ⟨by decide, pgEI, B.2.2.2.2.1 _ q_90, pgB_nc B (pgEA, pgEI) (by decide)⟩, (fun _ h => nomatch h)⟩, by decide, by decide, B.2.2.2.2.1 _ q_91, pgB_nw B (w := .castable pgEA pgEA) (by decide) rfl, rfl⟩, fun q9 => ?_⟩
      refine j_astore B (L' := [(4, .ref q9), (0, .ref (ad 0)), (1, .int d), (2, .int w), (3, .ref o)]) dL_smash_17 (by decide) rfl ?_
      refine j_iconst B (v := 2) dL_smash_19 (by decide) ?_
      exact j_iret B hr rfl dL_smash_20 (Nat.le_of_ble_eq_true rfl) (Nat.le_of_ble_eq_true rfl) () (by rw [hk1] <;> rfl) (fun H h => by rw [hX, if_neg hne]; exact h)
    · refine ⟨21, ⟨[⟨0, 10, 13, 13⟩, ⟨0, 10, 17, 15⟩], ⟨0, 10, 21, 17⟩, [], pgES, ht, List.forall_mem_cons.mpr ⟨Or.inr ⟨by decide, pgEI, B.2.2.2.2.1 _ q_90, pgB_nc B (pgES, pgEI) (by decide)⟩, List.forall_mem_cons.mpr ⟨Or.inr ⟨by decide, pgEA, B.2.2.2.2.1 _ q_91, pgB_nc B (pgES, pgEA) (by decide)⟩, (fun _ h => nomatch h)⟩⟩, by decide, by decide, B.2.2.2.2.1 _ q_92, pgB_nw B (w := .castable pgES pgES) (by decide) rfl, rfl⟩, fun q9 => ?_⟩
      refine j_astore B (L' := [(4, .ref q9), (0, .ref (ad 0)), (1, .int d), (2, .int w), (3, .ref o)]) dL_smash_21 (by decide) rfl ?_
      refine j_iconst B (v := 3) dL_smash_23 (by decide) ?_
      exact j_iret B hr rfl dL_smash_24 (Nat.le_of_ble_eq_true rfl) (Nat.le_of_ble_eq_true rfl) () (by rw [hk1] <;> rfl) (fun H h => by rw [hX, if_neg hne]; exact h)
  · obtain ⟨h0, h1⟩ := hp
    subst h1
    refine j_i2l B dL_smash_8 ?_
    refine j_last B (Wd' := pgWO D cD cC cL A (sp_smash σ d w).2.2 n ad o (vp_updL f 0 (sp_smash σ d w).2.1.toInt64)) (fun H h => h.2.1) 4 rfl pg_in01 dL_smash_9 hAo (fun H H1 h hc hz ho => ⟨h.1.kept (fun k hk => ho _ (h.1.2.2 k hk).2), by rw [pg_c0] at hc; exact hc, hAo⟩) ?_
    refine j_goto B 25 dL_smash_10 (by decide) ?_
    refine j_iconst B (v := 0) dL_smash_25 (by decide) ?_
    exact j_iret B hr rfl dL_smash_26 (Nat.le_of_ble_eq_true rfl) (Nat.le_of_ble_eq_true rfl) () (by rw [h0] <;> rfl) (fun H h => by rw [if_pos h0]; exact h)
/-- check, with what it throws as a number -/
theorem c_L_check (l : Launch) (hl : l.stackTraces = false) (D : va_G) (cD cC cI cZ cL : ClassId) (A : Nat → Prop) (σ : pgSt) (n : Nat) (ad : Nat → Nat) (o : Nat) (f : Nat → Int64) (hI : pgI n σ) (d : Int32) (w : Int32) (g : Int32) (hg : g = 0 ∨ g = 1) : Met l yL_check (.codeWith yL_check cL_check 6 (some .int) [(0, 12, 15, 13), (0, 12, 19, 15), (0, 12, 23, 17)] :: pgWd) ({ frames := 8, cells := 4, slots := 24, locals := 128 } : Room) (pgPc D (pgTys cD cC cI cZ cL) A (pgWO D cD cC cL A σ n ad o f) [.ref (ad 0), .int d, .int w, .int g, .ref o]) (va_Qi (fun (r : Int32) (_ : Unit) => r = nI (sp_check σ d w g).1) (fun _ t9 => pgWO D cD cC cL A (sp_check σ d w g).2.2 n ad o (if (sp_check σ d w g).1 = 0 then vp_updL f 0 (sp_check σ d w g).2.1.toInt64 else f) t9.heap) A) 4 24 A := by
  have hsc := @sc_check σ d w g
  refine pg_enterW (own := RL) (by decide) rfl (Nat.le_of_ble_eq_true rfl) (fun p e s m below meth cc9 B hr ht => ?_)
  refine j_fact (fun H h => h.2.2) (fun hAo => ?_)
  refine j_aload B dL_check_0 4 rfl ?_
  refine j_iconst B (v := 0) dL_check_2 (by decide) ?_
  refine j_aload_n B dL_check_3 0 rfl rfl ?_
  refine j_iload_n B dL_check_4 1 rfl rfl ?_
  refine j_iload_n B dL_check_5 2 rfl rfl ?_
  refine j_iload_n B dL_check_6 3 rfl rfl ?_
  refine j_wVi B (S := Unit) 3 [.int d, .int w, .int g] (WdC' := fun _ => pgR D cD cC (fun z => A z ∧ z ≠ o) (sp_check σ d w g).2.2 n ad) (WdX := pgR D cD cC (fun z => A z ∧ z ≠ o) σ n ad) (fun _ => pgWO D cD cC cL A (sp_check σ d w g).2.2 n ad o f) (pgWO D cD cC cL A σ n ad o f) (c_X2_check l hl D cD cC cI cZ cL (fun z => A z ∧ z ≠ o) σ n ad hI d w g hg) rfl (fun H h => h.1.x) q_374 q_375 q_376 q_1 q_377 hdX2_check rfl ⟨Nat.le_of_ble_eq_true rfl, Nat.le_of_ble_eq_true rfl⟩ (Nat.le_of_ble_eq_true rfl) dL_check_7 rfl ⟨Nat.le_of_ble_eq_true rfl, Nat.le_of_ble_eq_true rfl⟩ (fun _ h => h.1) (fun H h z hz hA => ⟨hA, fun z2 => by have := h.2.1.lt; omega⟩) (fun _ h => h.1) (fun H H1 u h h1 hz hk => ⟨h1, h.2.1.kept (hk o h.2.1.lt (fun z => z.2 rfl)), h.2.2⟩) (fun H H1 h h1 hz hk => ⟨h1, h.2.1.kept (hk o h.2.1.lt (fun z => z.2 rfl)), h.2.2⟩) (fun k hk => ?_) (fun r u hp => ?_)
  · obtain ⟨hk1, hk0⟩ := hk
    have hX : (sp_check σ d w g).2.2 = σ := hsc.2 (by rw [hk1]; exact hk0)
    have hne : ¬ (sp_check σ d w g).1 = 0 := fun z => hk0 (hk1.symm.trans z)
    have hcs : k = 1 ∨ k = 2 ∨ k = 3 := by have := hsc.1; omega
    rcases hcs with rfl | rfl | rfl
    · refine ⟨15, ⟨[], ⟨0, 12, 15, 13⟩, [⟨0, 12, 19, 15⟩, ⟨0, 12, 23, 17⟩], pgEI, ht, (fun _ h => nomatch h), by decide, by decide, B.2.2.2.2.1 _ q_90, pgB_nw B (w := .castable pgEI pgEI) (by decide) rfl, rfl⟩, fun q9 => ?_⟩
      refine j_astore B (L' := [(5, .ref q9), (0, .ref (ad 0)), (1, .int d), (2, .int w), (3, .int g), (4, .ref o)]) dL_check_15 (by decide) rfl ?_
      refine j_iconst B (v := 1) dL_check_17 (by decide) ?_
      exact j_iret B hr rfl dL_check_18 (Nat.le_of_ble_eq_true rfl) (Nat.le_of_ble_eq_true rfl) () (by rw [hk1] <;> rfl) (fun H h => by rw [hX, if_neg hne]; exact h)
    · refine ⟨19, ⟨[⟨0, 12, 15, 13⟩], ⟨0, 12, 19, 15⟩, [⟨0, 12, 23, 17⟩], pgEA, ht, List.forall_mem_cons.mpr ⟨Or.inr ⟨by decide, pgEI, B.2.2.2.2.1 _ q_90, pgB_nc B (pgEA, pgEI) (by decide)⟩, (fun _ h => nomatch h)⟩, by decide, by decide, B.2.2.2.2.1 _ q_91, pgB_nw B (w := .castable pgEA pgEA) (by decide) rfl, rfl⟩, fun q9 => ?_⟩
      refine j_astore B (L' := [(5, .ref q9), (0, .ref (ad 0)), (1, .int d), (2, .int w), (3, .int g), (4, .ref o)]) dL_check_19 (by decide) rfl ?_
      refine j_iconst B (v := 2) dL_check_21 (by decide) ?_
      exact j_iret B hr rfl dL_check_22 (Nat.le_of_ble_eq_true rfl) (Nat.le_of_ble_eq_true rfl) () (by rw [hk1] <;> rfl) (fun H h => by rw [hX, if_neg hne]; exact h)
    · refine ⟨23, ⟨[⟨0, 12, 15, 13⟩, ⟨0, 12, 19, 15⟩], ⟨0, 12, 23, 17⟩, [], pgES, ht, List.forall_mem_cons.mpr ⟨Or.inr ⟨by decide, pgEI, B.2.2.2.2.1 _ q_90, pgB_nc B (pgES, pgEI) (by decide)⟩, List.forall_mem_cons.mpr ⟨Or.inr ⟨by decide, pgEA, B.2.2.2.2.1 _ q_91, pgB_nc B (pgES, pgEA) (by decide)⟩, (fun _ h => nomatch h)⟩⟩, by decide, by decide, B.2.2.2.2.1 _ q_92, pgB_nw B (w := .castable pgES pgES) (by decide) rfl, rfl⟩, fun q9 => ?_⟩
      refine j_astore B (L' := [(5, .ref q9), (0, .ref (ad 0)), (1, .int d), (2, .int w), (3, .int g), (4, .ref o)]) dL_check_23 (by decide) rfl ?_
      refine j_iconst B (v := 3) dL_check_25 (by decide) ?_
      exact j_iret B hr rfl dL_check_26 (Nat.le_of_ble_eq_true rfl) (Nat.le_of_ble_eq_true rfl) () (by rw [hk1] <;> rfl) (fun H h => by rw [hX, if_neg hne]; exact h)
  · obtain ⟨h0, h1⟩ := hp
    subst h1
    refine j_i2l B dL_check_10 ?_
    refine j_last B (Wd' := pgWO D cD cC cL A (sp_check σ d w g).2.2 n ad o (vp_updL f 0 (sp_check σ d w g).2.1.toInt64)) (fun H h => h.2.1) 4 rfl pg_in01 dL_check_11 hAo (fun H H1 h hc hz ho => ⟨h.1.kept (fun k hk => ho _ (h.1.2.2 k hk).2), by rw [pg_c0] at hc; exact hc, hAo⟩) ?_
    refine j_goto B 27 dL_check_12 (by decide) ?_
    refine j_iconst B (v := 0) dL_check_27 (by decide) ?_
    exact j_iret B hr rfl dL_check_28 (Nat.le_of_ble_eq_true rfl) (Nat.le_of_ble_eq_true rfl) () (by rw [h0] <;> rfl) (fun H h => by rw [if_pos h0]; exact h)
/-- lose, with what it throws as a number -/
theorem c_L_lose (l : Launch) (hl : l.stackTraces = false) (D : va_G) (cD cC cI cZ cL : ClassId) (A : Nat → Prop) (σ : pgSt) (n : Nat) (ad : Nat → Nat) (o : Nat) (f : Nat → Int64) (hI : pgI n σ) (d : Int32) : Met l yL_lose (.codeWith yL_lose cL_lose 4 (some .int) [(0, 9, 12, 13), (0, 9, 15, 17)] :: pgWd) ({ frames := 8, cells := 2, slots := 12, locals := 126 } : Room) (pgPc D (pgTys cD cC cI cZ cL) A (pgWO D cD cC cL A σ n ad o f) [.ref (ad 0), .int d, .ref o]) (va_Qi (fun (r : Int32) (_ : Unit) => r = pgKB (sp_lose σ d).1) (fun _ t9 => pgWO D cD cC cL A (sp_lose σ d).2.2 n ad o (if (sp_lose σ d).1 = 0 then vp_updL f 0 (sp_lose σ d).2.1.toInt64 else f) t9.heap) A) 2 12 A := by
  have hsc := @sc_lose σ d
  refine pg_enterW (own := RL) (by decide) rfl (Nat.le_of_ble_eq_true rfl) (fun p e s m below meth cc9 B hr ht => ?_)
  refine j_fact (fun H h => h.2.2) (fun hAo => ?_)
  refine j_aload_n B dL_lose_0 2 rfl rfl ?_
  refine j_iconst B (v := 0) dL_lose_1 (by decide) ?_
  refine j_aload_n B dL_lose_2 0 rfl rfl ?_
  refine j_iload_n B dL_lose_3 1 rfl rfl ?_
  refine j_wVi B (S := Unit) 1 [.int d] (WdC' := fun _ => pgR D cD cC (fun z => A z ∧ z ≠ o) (sp_lose σ d).2.2 n ad) (WdX := pgR D cD cC (fun z => A z ∧ z ≠ o) σ n ad) (fun _ => pgWO D cD cC cL A (sp_lose σ d).2.2 n ad o f) (pgWO D cD cC cL A σ n ad o f) (c_X2_lose l hl D cD cC cI cZ cL (fun z => A z ∧ z ≠ o) σ n ad hI d) rfl (fun H h => h.1.x) q_383 q_384 q_385 q_1 q_386 hdX2_lose rfl ⟨Nat.le_of_ble_eq_true rfl, Nat.le_of_ble_eq_true rfl⟩ (Nat.le_of_ble_eq_true rfl) dL_lose_4 rfl ⟨Nat.le_of_ble_eq_true rfl, Nat.le_of_ble_eq_true rfl⟩ (fun _ h => h.1) (fun H h z hz hA => ⟨hA, fun z2 => by have := h.2.1.lt; omega⟩) (fun _ h => h.1) (fun H H1 u h h1 hz hk => ⟨h1, h.2.1.kept (hk o h.2.1.lt (fun z => z.2 rfl)), h.2.2⟩) (fun H H1 h h1 hz hk => ⟨h1, h.2.1.kept (hk o h.2.1.lt (fun z => z.2 rfl)), h.2.2⟩) (fun k hk => ?_) (fun r u hp => ?_)
  · obtain ⟨hk1, hk0⟩ := hk
    have hX : (sp_lose σ d).2.2 = σ := hsc.2 (by rw [hk1]; exact hk0)
    have hne : ¬ (sp_lose σ d).1 = 0 := fun z => hk0 (hk1.symm.trans z)
    have hcs : k = 1 ∨ k = 3 := by have := hsc.1; omega
    rcases hcs with rfl | rfl
    · refine ⟨12, ⟨[], ⟨0, 9, 12, 13⟩, [⟨0, 9, 15, 17⟩], pgEI, ht, (fun _ h => nomatch h), by decide, by decide, B.2.2.2.2.1 _ q_90, pgB_nw B (w := .castable pgEI pgEI) (by decide) rfl, rfl⟩, fun q9 => ?_⟩
      refine j_astore_n B (L' := [(3, .ref q9), (0, .ref (ad 0)), (1, .int d), (2, .ref o)]) dL_lose_12 rfl (by decide) rfl ?_
      refine j_iconst B (v := 1) dL_lose_13 (by decide) ?_
      exact j_iret B hr rfl dL_lose_14 (Nat.le_of_ble_eq_true rfl) (Nat.le_of_ble_eq_true rfl) () (by rw [hk1] <;> rfl) (fun H h => by rw [hX, if_neg hne]; exact h)
    · refine ⟨15, ⟨[⟨0, 9, 12, 13⟩], ⟨0, 9, 15, 17⟩, [], pgES, ht, List.forall_mem_cons.mpr ⟨Or.inr ⟨by decide, pgEI, B.2.2.2.2.1 _ q_90, pgB_nc B (pgES, pgEI) (by decide)⟩, (fun _ h => nomatch h)⟩, by decide, by decide, B.2.2.2.2.1 _ q_92, pgB_nw B (w := .castable pgES pgES) (by decide) rfl, rfl⟩, fun q9 => ?_⟩
      refine j_astore_n B (L' := [(3, .ref q9), (0, .ref (ad 0)), (1, .int d), (2, .ref o)]) dL_lose_15 rfl (by decide) rfl ?_
      refine j_iconst B (v := 2) dL_lose_16 (by decide) ?_
      exact j_iret B hr rfl dL_lose_17 (Nat.le_of_ble_eq_true rfl) (Nat.le_of_ble_eq_true rfl) () (by rw [hk1] <;> rfl) (fun H h => by rw [hX, if_neg hne]; exact h)
  · obtain ⟨h0, h1⟩ := hp
    subst h1
    refine j_i2l B dL_lose_7 ?_
    refine j_last B (Wd' := pgWO D cD cC cL A (sp_lose σ d).2.2 n ad o (vp_updL f 0 (sp_lose σ d).2.1.toInt64)) (fun H h => h.2.1) 4 rfl pg_in01 dL_lose_8 hAo (fun H H1 h hc hz ho => ⟨h.1.kept (fun k hk => ho _ (h.1.2.2 k hk).2), by rw [pg_c0] at hc; exact hc, hAo⟩) ?_
    refine j_goto B 18 dL_lose_9 (by decide) ?_
    refine j_iconst B (v := 0) dL_lose_18 (by decide) ?_
    exact j_iret B hr rfl dL_lose_19 (Nat.le_of_ble_eq_true rfl) (Nat.le_of_ble_eq_true rfl) () (by rw [h0] <;> rfl) (fun H h => by rw [if_pos h0]; exact h)
/-- find, with what it throws as a number -/
theorem c_L_find (l : Launch) (hl : l.stackTraces = false) (D : va_G) (cD cC cI cZ cL : ClassId) (A : Nat → Prop) (σ : pgSt) (n : Nat) (ad : Nat → Nat) (o : Nat) (f : Nat → Int64) (hI : pgI n σ) (d : Int32) : Met l yL_find (.codeWith yL_find cL_find 4 (some .int) [(0, 9, 12, 13), (0, 9, 15, 17)] :: pgWd) ({ frames := 8, cells := 2, slots := 12, locals := 126 } : Room) (pgPc D (pgTys cD cC cI cZ cL) A (pgWO D cD cC cL A σ n ad o f) [.ref (ad 0), .int d, .ref o]) (va_Qi (fun (r : Int32) (_ : Unit) => r = pgKB (sp_find σ d).1) (fun _ t9 => pgWO D cD cC cL A (sp_find σ d).2.2 n ad o (if (sp_find σ d).1 = 0 then vp_updL f 0 (sp_find σ d).2.1.toInt64 else f) t9.heap) A) 2 12 A := by
  have hsc := @sc_find σ d
  refine pg_enterW (own := RL) (by decide) rfl (Nat.le_of_ble_eq_true rfl) (fun p e s m below meth cc9 B hr ht => ?_)
  refine j_fact (fun H h => h.2.2) (fun hAo => ?_)
  refine j_aload_n B dL_find_0 2 rfl rfl ?_
  refine j_iconst B (v := 0) dL_find_1 (by decide) ?_
  refine j_aload_n B dL_find_2 0 rfl rfl ?_
  refine j_iload_n B dL_find_3 1 rfl rfl ?_
  refine j_wVi B (S := Unit) 1 [.int d] (WdC' := fun _ => pgR D cD cC (fun z => A z ∧ z ≠ o) (sp_find σ d).2.2 n ad) (WdX := pgR D cD cC (fun z => A z ∧ z ≠ o) σ n ad) (fun _ => pgWO D cD cC cL A (sp_find σ d).2.2 n ad o f) (pgWO D cD cC cL A σ n ad o f) (c_X2_find l hl D cD cC cI cZ cL (fun z => A z ∧ z ≠ o) σ n ad hI d) rfl (fun H h => h.1.x) q_391 q_392 q_393 q_1 q_394 hdX2_find rfl ⟨Nat.le_of_ble_eq_true rfl, Nat.le_of_ble_eq_true rfl⟩ (Nat.le_of_ble_eq_true rfl) dL_find_4 rfl ⟨Nat.le_of_ble_eq_true rfl, Nat.le_of_ble_eq_true rfl⟩ (fun _ h => h.1) (fun H h z hz hA => ⟨hA, fun z2 => by have := h.2.1.lt; omega⟩) (fun _ h => h.1) (fun H H1 u h h1 hz hk => ⟨h1, h.2.1.kept (hk o h.2.1.lt (fun z => z.2 rfl)), h.2.2⟩) (fun H H1 h h1 hz hk => ⟨h1, h.2.1.kept (hk o h.2.1.lt (fun z => z.2 rfl)), h.2.2⟩) (fun k hk => ?_) (fun r u hp => ?_)
  · obtain ⟨hk1, hk0⟩ := hk
    have hX : (sp_find σ d).2.2 = σ := hsc.2 (by rw [hk1]; exact hk0)
    have hne : ¬ (sp_find σ d).1 = 0 := fun z => hk0 (hk1.symm.trans z)
    have hcs : k = 1 ∨ k = 3 := by have := hsc.1; omega
    rcases hcs with rfl | rfl
    · refine ⟨12, ⟨[], ⟨0, 9, 12, 13⟩, [⟨0, 9, 15, 17⟩], pgEI, ht, (fun _ h => nomatch h), by decide, by decide, B.2.2.2.2.1 _ q_90, pgB_nw B (w := .castable pgEI pgEI) (by decide) rfl, rfl⟩, fun q9 => ?_⟩
      refine j_astore_n B (L' := [(3, .ref q9), (0, .ref (ad 0)), (1, .int d), (2, .ref o)]) dL_find_12 rfl (by decide) rfl ?_
      refine j_iconst B (v := 1) dL_find_13 (by decide) ?_
      exact j_iret B hr rfl dL_find_14 (Nat.le_of_ble_eq_true rfl) (Nat.le_of_ble_eq_true rfl) () (by rw [hk1] <;> rfl) (fun H h => by rw [hX, if_neg hne]; exact h)
    · refine ⟨15, ⟨[⟨0, 9, 12, 13⟩], ⟨0, 9, 15, 17⟩, [], pgES, ht, List.forall_mem_cons.mpr ⟨Or.inr ⟨by decide, pgEI, B.2.2.2.2.1 _ q_90, pgB_nc B (pgES, pgEI) (by decide)⟩, (fun _ h => nomatch h)⟩, by decide, by decide, B.2.2.2.2.1 _ q_92, pgB_nw B (w := .castable pgES pgES) (by decide) rfl, rfl⟩, fun q9 => ?_⟩
      refine j_astore_n B (L' := [(3, .ref q9), (0, .ref (ad 0)), (1, .int d), (2, .ref o)]) dL_find_15 rfl (by decide) rfl ?_
      refine j_iconst B (v := 2) dL_find_16 (by decide) ?_
      exact j_iret B hr rfl dL_find_17 (Nat.le_of_ble_eq_true rfl) (Nat.le_of_ble_eq_true rfl) () (by rw [hk1] <;> rfl) (fun H h => by rw [hX, if_neg hne]; exact h)
  · obtain ⟨h0, h1⟩ := hp
    subst h1
    refine j_i2l B dL_find_7 ?_
    refine j_last B (Wd' := pgWO D cD cC cL A (sp_find σ d).2.2 n ad o (vp_updL f 0 (sp_find σ d).2.1.toInt64)) (fun H h => h.2.1) 4 rfl pg_in01 dL_find_8 hAo (fun H H1 h hc hz ho => ⟨h.1.kept (fun k hk => ho _ (h.1.2.2 k hk).2), by rw [pg_c0] at hc; exact hc, hAo⟩) ?_
    refine j_goto B 18 dL_find_9 (by decide) ?_
    refine j_iconst B (v := 0) dL_find_18 (by decide) ?_
    exact j_iret B hr rfl dL_find_19 (Nat.le_of_ble_eq_true rfl) (Nat.le_of_ble_eq_true rfl) () (by rw [h0] <;> rfl) (fun H h => by rw [if_pos h0]; exact h)
/-- keeperOf, with what it throws as a number -/
theorem c_L_keeperOf (l : Launch) (hl : l.stackTraces = false) (D : va_G) (cD cC cI cZ cL : ClassId) (A : Nat → Prop) (σ : pgSt) (n : Nat) (ad : Nat → Nat) (o : Nat) (f : Nat → Int64) (hI : pgI n σ) (d : Int32) : Met l yL_keeperOf (.codeWith yL_keeperOf cL_keeperOf 4 (some .int) [(0, 9, 12, 13)] :: pgWd) ({ frames := 8, cells := 1, slots := 6, locals := 125 } : Room) (pgPc D (pgTys cD cC cI cZ cL) A (pgWO D cD cC cL A σ n ad o f) [.ref (ad 0), .int d, .ref o]) (va_Qi (fun (r : Int32) (_ : Unit) => r = nI (sp_askD σ d 2).1) (fun _ t9 => pgWO D cD cC cL A (sp_askD σ d 2).2.2 n ad o (if (sp_askD σ d 2).1 = 0 then vp_updL f 0 (sp_askD σ d 2).2.1.toInt64 else f) t9.heap) A) 1 6 A := by
  have hsc := @sc_askD σ d 2
  refine pg_enterW (own := RL) (by decide) rfl (Nat.le_of_ble_eq_true rfl) (fun p e s m below meth cc9 B hr ht => ?_)
  refine j_fact (fun H h => h.2.2) (fun hAo => ?_)
  refine j_aload_n B dL_keeperOf_0 2 rfl rfl ?_
  refine j_iconst B (v := 0) dL_keeperOf_1 (by decide) ?_
  refine j_aload_n B dL_keeperOf_2 0 rfl rfl ?_
  refine j_iload_n B dL_keeperOf_3 1 rfl rfl ?_
  refine j_wVi B (S := Unit) 1 [.int d] (WdC' := fun _ => pgR D cD cC (fun z => A z ∧ z ≠ o) (sp_askD σ d 2).2.2 n ad) (WdX := pgR D cD cC (fun z => A z ∧ z ≠ o) σ n ad) (fun _ => pgWO D cD cC cL A (sp_askD σ d 2).2.2 n ad o f) (pgWO D cD cC cL A σ n ad o f) (c_X2_keeperOf l hl D cD cC cI cZ cL (fun z => A z ∧ z ≠ o) σ n ad hI d) rfl (fun H h => h.1.x) q_431 q_432 q_433 q_1 q_434 hdX2_keeperOf rfl ⟨Nat.le_of_ble_eq_true rfl, Nat.le_of_ble_eq_true rfl⟩ (Nat.le_of_ble_eq_true rfl) dL_keeperOf_4 rfl ⟨Nat.le_of_ble_eq_true rfl, Nat.le_of_ble_eq_true rfl⟩ (fun _ h => h.1) (fun H h z hz hA => ⟨hA, fun z2 => by have := h.2.1.lt; omega⟩) (fun _ h => h.1) (fun H H1 u h h1 hz hk => ⟨h1, h.2.1.kept (hk o h.2.1.lt (fun z => z.2 rfl)), h.2.2⟩) (fun H H1 h h1 hz hk => ⟨h1, h.2.1.kept (hk o h.2.1.lt (fun z => z.2 rfl)), h.2.2⟩) (fun k hk => ?_) (fun r u hp => ?_)
  · obtain ⟨hk1, hk0⟩ := hk
    have hX : (sp_askD σ d 2).2.2 = σ := hsc.2 (by rw [hk1]; exact hk0)
    have hne : ¬ (sp_askD σ d 2).1 = 0 := fun z => hk0 (hk1.symm.trans z)
    have hcs : k = 1 := by have := hsc.1; omega
    rcases hcs with rfl
    · refine ⟨12, ⟨[], ⟨0, 9, 12, 13⟩, [], pgEI, ht, (fun _ h => nomatch h), by decide, by decide, B.2.2.2.2.1 _ q_90, pgB_nw B (w := .castable pgEI pgEI) (by decide) rfl, rfl⟩, fun q9 => ?_⟩
      refine j_astore_n B (L' := [(3, .ref q9), (0, .ref (ad 0)), (1, .int d), (2, .ref o)]) dL_keeperOf_12 rfl (by decide) rfl ?_
      refine j_iconst B (v := 1) dL_keeperOf_13 (by decide) ?_
      exact j_iret B hr rfl dL_keeperOf_14 (Nat.le_of_ble_eq_true rfl) (Nat.le_of_ble_eq_true rfl) () (by rw [hk1] <;> rfl) (fun H h => by rw [hX, if_neg hne]; exact h)
  · obtain ⟨h0, h1⟩ := hp
    subst h1
    refine j_i2l B dL_keeperOf_7 ?_
    refine j_last B (Wd' := pgWO D cD cC cL A (sp_askD σ d 2).2.2 n ad o (vp_updL f 0 (sp_askD σ d 2).2.1.toInt64)) (fun H h => h.2.1) 4 rfl pg_in01 dL_keeperOf_8 hAo (fun H H1 h hc hz ho => ⟨h.1.kept (fun k hk => ho _ (h.1.2.2 k hk).2), by rw [pg_c0] at hc; exact hc, hAo⟩) ?_
    refine j_goto B 15 dL_keeperOf_9 (by decide) ?_
    refine j_iconst B (v := 0) dL_keeperOf_15 (by decide) ?_
    exact j_iret B hr rfl dL_keeperOf_16 (Nat.le_of_ble_eq_true rfl) (Nat.le_of_ble_eq_true rfl) () (by rw [h0] <;> rfl) (fun H h => by rw [if_pos h0]; exact h)
/-- keeperByLog, with what it throws as a number -/
theorem c_L_keeperByLog (l : Launch) (hl : l.stackTraces = false) (D : va_G) (cD cC cI cZ cL : ClassId) (A : Nat → Prop) (σ : pgSt) (n : Nat) (ad : Nat → Nat) (o : Nat) (f : Nat → Int64) (hI : pgI n σ) (d : Int32) : Met l yL_keeperByLog (.codeWith yL_keeperByLog cL_keeperByLog 4 (some .int) [(0, 9, 12, 13)] :: pgWd) ({ frames := 8, cells := 1, slots := 6, locals := 125 } : Room) (pgPc D (pgTys cD cC cI cZ cL) A (pgWO D cD cC cL A σ n ad o f) [.ref (ad 0), .int d, .ref o]) (va_Qi (fun (r : Int32) (_ : Unit) => r = nI (sp_askD σ d 14).1) (fun _ t9 => pgWO D cD cC cL A (sp_askD σ d 14).2.2 n ad o (if (sp_askD σ d 14).1 = 0 then vp_updL f 0 (sp_askD σ d 14).2.1.toInt64 else f) t9.heap) A) 1 6 A := by
  have hsc := @sc_askD σ d 14
  refine pg_enterW (own := RL) (by decide) rfl (Nat.le_of_ble_eq_true rfl) (fun p e s m below meth cc9 B hr ht => ?_)
  refine j_fact (fun H h => h.2.2) (fun hAo => ?_)
  refine j_aload_n B dL_keeperByLog_0 2 rfl rfl ?_
  refine j_iconst B (v := 0) dL_keeperByLog_1 (by decide) ?_
  refine j_aload_n B dL_keeperByLog_2 0 rfl rfl ?_
  refine j_iload_n B dL_keeperByLog_3 1 rfl rfl ?_
  refine j_wVi B (S := Unit) 1 [.int d] (WdC' := fun _ => pgR D cD cC (fun z => A z ∧ z ≠ o) (sp_askD σ d 14).2.2 n ad) (WdX := pgR D cD cC (fun z => A z ∧ z ≠ o) σ n ad) (fun _ => pgWO D cD cC cL A (sp_askD σ d 14).2.2 n ad o f) (pgWO D cD cC cL A σ n ad o f) (c_X2_keeperByLog l hl D cD cC cI cZ cL (fun z => A z ∧ z ≠ o) σ n ad hI d) rfl (fun H h => h.1.x) q_438 q_439 q_440 q_1 q_441 hdX2_keeperByLog rfl ⟨Nat.le_of_ble_eq_true rfl, Nat.le_of_ble_eq_true rfl⟩ (Nat.le_of_ble_eq_true rfl) dL_keeperByLog_4 rfl ⟨Nat.le_of_ble_eq_true rfl, Nat.le_of_ble_eq_true rfl⟩ (fun _ h => h.1) (fun H h z hz hA => ⟨hA, fun z2 => by have := h.2.1.lt; omega⟩) (fun _ h => h.1) (fun H H1 u h h1 hz hk => ⟨h1, h.2.1.kept (hk o h.2.1.lt (fun z => z.2 rfl)), h.2.2⟩) (fun H H1 h h1 hz hk => ⟨h1, h.2.1.kept (hk o h.2.1.lt (fun z => z.2 rfl)), h.2.2⟩) (fun k hk => ?_) (fun r u hp => ?_)
  · obtain ⟨hk1, hk0⟩ := hk
    have hX : (sp_askD σ d 14).2.2 = σ := hsc.2 (by rw [hk1]; exact hk0)
    have hne : ¬ (sp_askD σ d 14).1 = 0 := fun z => hk0 (hk1.symm.trans z)
    have hcs : k = 1 := by have := hsc.1; omega
    rcases hcs with rfl
    · refine ⟨12, ⟨[], ⟨0, 9, 12, 13⟩, [], pgEI, ht, (fun _ h => nomatch h), by decide, by decide, B.2.2.2.2.1 _ q_90, pgB_nw B (w := .castable pgEI pgEI) (by decide) rfl, rfl⟩, fun q9 => ?_⟩
      refine j_astore_n B (L' := [(3, .ref q9), (0, .ref (ad 0)), (1, .int d), (2, .ref o)]) dL_keeperByLog_12 rfl (by decide) rfl ?_
      refine j_iconst B (v := 1) dL_keeperByLog_13 (by decide) ?_
      exact j_iret B hr rfl dL_keeperByLog_14 (Nat.le_of_ble_eq_true rfl) (Nat.le_of_ble_eq_true rfl) () (by rw [hk1] <;> rfl) (fun H h => by rw [hX, if_neg hne]; exact h)
  · obtain ⟨h0, h1⟩ := hp
    subst h1
    refine j_i2l B dL_keeperByLog_7 ?_
    refine j_last B (Wd' := pgWO D cD cC cL A (sp_askD σ d 14).2.2 n ad o (vp_updL f 0 (sp_askD σ d 14).2.1.toInt64)) (fun H h => h.2.1) 4 rfl pg_in01 dL_keeperByLog_8 hAo (fun H H1 h hc hz ho => ⟨h.1.kept (fun k hk => ho _ (h.1.2.2 k hk).2), by rw [pg_c0] at hc; exact hc, hAo⟩) ?_
    refine j_goto B 15 dL_keeperByLog_9 (by decide) ?_
    refine j_iconst B (v := 0) dL_keeperByLog_15 (by decide) ?_
    exact j_iret B hr rfl dL_keeperByLog_16 (Nat.le_of_ble_eq_true rfl) (Nat.le_of_ble_eq_true rfl) () (by rw [h0] <;> rfl) (fun H h => by rw [if_pos h0]; exact h)
/-- crateOf, with what it throws as a number -/
theorem c_L_crateOf (l : Launch) (hl : l.stackTraces = false) (D : va_G) (cD cC cI cZ cL : ClassId) (A : Nat → Prop) (σ : pgSt) (n : Nat) (ad : Nat → Nat) (o : Nat) (f : Nat → Int64) (hI : pgI n σ) (d : Int32) : Met l yL_crateOf (.codeWith yL_crateOf cL_crateOf 4 (some .int) [(0, 9, 12, 13)] :: pgWd) ({ frames := 8, cells := 1, slots := 6, locals := 125 } : Room) (pgPc D (pgTys cD cC cI cZ cL) A (pgWO D cD cC cL A σ n ad o f) [.ref (ad 0), .int d, .ref o]) (va_Qi (fun (r : Int32) (_ : Unit) => r = nI (sp_askD σ d 3).1) (fun _ t9 => pgWO D cD cC cL A (sp_askD σ d 3).2.2 n ad o (if (sp_askD σ d 3).1 = 0 then vp_updL f 0 (sp_askD σ d 3).2.1.toInt64 else f) t9.heap) A) 1 6 A := by
  have hsc := @sc_askD σ d 3
  refine pg_enterW (own := RL) (by decide) rfl (Nat.le_of_ble_eq_true rfl) (fun p e s m below meth cc9 B hr ht => ?_)
  refine j_fact (fun H h => h.2.2) (fun hAo => ?_)
  refine j_aload_n B dL_crateOf_0 2 rfl rfl ?_
  refine j_iconst B (v := 0) dL_crateOf_1 (by decide) ?_
  refine j_aload_n B dL_crateOf_2 0 rfl rfl ?_
  refine j_iload_n B dL_crateOf_3 1 rfl rfl ?_
  refine j_wVi B (S := Unit) 1 [.int d] (WdC' := fun _ => pgR D cD cC (fun z => A z ∧ z ≠ o) (sp_askD σ d 3).2.2 n ad) (WdX := pgR D cD cC (fun z => A z ∧ z ≠ o) σ n ad) (fun _ => pgWO D cD cC cL A (sp_askD σ d 3).2.2 n ad o f) (pgWO D cD cC cL A σ n ad o f) (c_X2_crateOf l hl D cD cC cI cZ cL (fun z => A z ∧ z ≠ o) σ n ad hI d) rfl (fun H h => h.1.x) q_445 q_446 q_447 q_1 q_448 hdX2_crateOf rfl ⟨Nat.le_of_ble_eq_true rfl, Nat.le_of_ble_eq_true rfl⟩ (Nat.le_of_ble_eq_true rfl) dL_crateOf_4 rfl ⟨Nat.le_of_ble_eq_true rfl, Nat.le_of_ble_eq_true rfl⟩ (fun _ h => h.1) (fun H h z hz hA => ⟨hA, fun z2 => by have := h.2.1.lt; omega⟩) (fun _ h => h.1) (fun H H1 u h h1 hz hk => ⟨h1, h.2.1.kept (hk o h.2.1.lt (fun z => z.2 rfl)), h.2.2⟩) (fun H H1 h h1 hz hk => ⟨h1, h.2.1.kept (hk o h.2.1.lt (fun z => z.2 rfl)), h.2.2⟩) (fun k hk => ?_) (fun r u hp => ?_)
  · obtain ⟨hk1, hk0⟩ := hk
    have hX : (sp_askD σ d 3).2.2 = σ := hsc.2 (by rw [hk1]; exact hk0)
    have hne : ¬ (sp_askD σ d 3).1 = 0 := fun z => hk0 (hk1.symm.trans z)
    have hcs : k = 1 := by have := hsc.1; omega
    rcases hcs with rfl
    · refine ⟨12, ⟨[], ⟨0, 9, 12, 13⟩, [], pgEI, ht, (fun _ h => nomatch h), by decide, by decide, B.2.2.2.2.1 _ q_90, pgB_nw B (w := .castable pgEI pgEI) (by decide) rfl, rfl⟩, fun q9 => ?_⟩
      refine j_astore_n B (L' := [(3, .ref q9), (0, .ref (ad 0)), (1, .int d), (2, .ref o)]) dL_crateOf_12 rfl (by decide) rfl ?_
      refine j_iconst B (v := 1) dL_crateOf_13 (by decide) ?_
      exact j_iret B hr rfl dL_crateOf_14 (Nat.le_of_ble_eq_true rfl) (Nat.le_of_ble_eq_true rfl) () (by rw [hk1] <;> rfl) (fun H h => by rw [hX, if_neg hne]; exact h)
  · obtain ⟨h0, h1⟩ := hp
    subst h1
    refine j_i2l B dL_crateOf_7 ?_
    refine j_last B (Wd' := pgWO D cD cC cL A (sp_askD σ d 3).2.2 n ad o (vp_updL f 0 (sp_askD σ d 3).2.1.toInt64)) (fun H h => h.2.1) 4 rfl pg_in01 dL_crateOf_8 hAo (fun H H1 h hc hz ho => ⟨h.1.kept (fun k hk => ho _ (h.1.2.2 k hk).2), by rw [pg_c0] at hc; exact hc, hAo⟩) ?_
    refine j_goto B 15 dL_crateOf_9 (by decide) ?_
    refine j_iconst B (v := 0) dL_crateOf_15 (by decide) ?_
    exact j_iret B hr rfl dL_crateOf_16 (Nat.le_of_ble_eq_true rfl) (Nat.le_of_ble_eq_true rfl) () (by rw [h0] <;> rfl) (fun H h => by rw [if_pos h0]; exact h)
/-- stateOf, with what it throws as a number -/
theorem c_L_stateOf (l : Launch) (hl : l.stackTraces = false) (D : va_G) (cD cC cI cZ cL : ClassId) (A : Nat → Prop) (σ : pgSt) (n : Nat) (ad : Nat → Nat) (o : Nat) (f : Nat → Int64) (hI : pgI n σ) (d : Int32) : Met l yL_stateOf (.codeWith yL_stateOf cL_stateOf 4 (some .int) [(0, 9, 12, 13)] :: pgWd) ({ frames := 8, cells := 1, slots := 6, locals := 125 } : Room) (pgPc D (pgTys cD cC cI cZ cL) A (pgWO D cD cC cL A σ n ad o f) [.ref (ad 0), .int d, .ref o]) (va_Qi (fun (r : Int32) (_ : Unit) => r = nI (sp_askD σ d 4).1) (fun _ t9 => pgWO D cD cC cL A (sp_askD σ d 4).2.2 n ad o (if (sp_askD σ d 4).1 = 0 then vp_updL f 0 (sp_askD σ d 4).2.1.toInt64 else f) t9.heap) A) 1 6 A := by
  have hsc := @sc_askD σ d 4
  refine pg_enterW (own := RL) (by decide) rfl (Nat.le_of_ble_eq_true rfl) (fun p e s m below meth cc9 B hr ht => ?_)
  refine j_fact (fun H h => h.2.2) (fun hAo => ?_)
  refine j_aload_n B dL_stateOf_0 2 rfl rfl ?_
  refine j_iconst B (v := 0) dL_stateOf_1 (by decide) ?_
  refine j_aload_n B dL_stateOf_2 0 rfl rfl ?_
  refine j_iload_n B dL_stateOf_3 1 rfl rfl ?_
  refine j_wVi B (S := Unit) 1 [.int d] (WdC' := fun _ => pgR D cD cC (fun z => A z ∧ z ≠ o) (sp_askD σ d 4).2.2 n ad) (WdX := pgR D cD cC (fun z => A z ∧ z ≠ o) σ n ad) (fun _ => pgWO D cD cC cL A (sp_askD σ d 4).2.2 n ad o f) (pgWO D cD cC cL A σ n ad o f) (c_X2_stateOf l hl D cD cC cI cZ cL (fun z => A z ∧ z ≠ o) σ n ad hI d) rfl (fun H h => h.1.x) q_452 q_453 q_454 q_1 q_455 hdX2_stateOf rfl ⟨Nat.le_of_ble_eq_true rfl, Nat.le_of_ble_eq_true rfl⟩ (Nat.le_of_ble_eq_true rfl) dL_stateOf_4 rfl ⟨Nat.le_of_ble_eq_true rfl, Nat.le_of_ble_eq_true rfl⟩ (fun _ h => h.1) (fun H h z hz hA => ⟨hA, fun z2 => by have := h.2.1.lt; omega⟩) (fun _ h => h.1) (fun H H1 u h h1 hz hk => ⟨h1, h.2.1.kept (hk o h.2.1.lt (fun z => z.2 rfl)), h.2.2⟩) (fun H H1 h h1 hz hk => ⟨h1, h.2.1.kept (hk o h.2.1.lt (fun z => z.2 rfl)), h.2.2⟩) (fun k hk => ?_) (fun r u hp => ?_)
  · obtain ⟨hk1, hk0⟩ := hk
    have hX : (sp_askD σ d 4).2.2 = σ := hsc.2 (by rw [hk1]; exact hk0)
    have hne : ¬ (sp_askD σ d 4).1 = 0 := fun z => hk0 (hk1.symm.trans z)
    have hcs : k = 1 := by have := hsc.1; omega
    rcases hcs with rfl
    · refine ⟨12, ⟨[], ⟨0, 9, 12, 13⟩, [], pgEI, ht, (fun _ h => nomatch h), by decide, by decide, B.2.2.2.2.1 _ q_90, pgB_nw B (w := .castable pgEI pgEI) (by decide) rfl, rfl⟩, fun q9 => ?_⟩
      refine j_astore_n B (L' := [(3, .ref q9), (0, .ref (ad 0)), (1, .int d), (2, .ref o)]) dL_stateOf_12 rfl (by decide) rfl ?_
      refine j_iconst B (v := 1) dL_stateOf_13 (by decide) ?_
      exact j_iret B hr rfl dL_stateOf_14 (Nat.le_of_ble_eq_true rfl) (Nat.le_of_ble_eq_true rfl) () (by rw [hk1] <;> rfl) (fun H h => by rw [hX, if_neg hne]; exact h)
  · obtain ⟨h0, h1⟩ := hp
    subst h1
    refine j_i2l B dL_stateOf_7 ?_
    refine j_last B (Wd' := pgWO D cD cC cL A (sp_askD σ d 4).2.2 n ad o (vp_updL f 0 (sp_askD σ d 4).2.1.toInt64)) (fun H h => h.2.1) 4 rfl pg_in01 dL_stateOf_8 hAo (fun H H1 h hc hz ho => ⟨h.1.kept (fun k hk => ho _ (h.1.2.2 k hk).2), by rw [pg_c0] at hc; exact hc, hAo⟩) ?_
    refine j_goto B 15 dL_stateOf_9 (by decide) ?_
    refine j_iconst B (v := 0) dL_stateOf_15 (by decide) ?_
    exact j_iret B hr rfl dL_stateOf_16 (Nat.le_of_ble_eq_true rfl) (Nat.le_of_ble_eq_true rfl) () (by rw [h0] <;> rfl) (fun H h => by rw [if_pos h0]; exact h)
/-- offeredTo, with what it throws as a number -/
theorem c_L_offeredTo (l : Launch) (hl : l.stackTraces = false) (D : va_G) (cD cC cI cZ cL : ClassId) (A : Nat → Prop) (σ : pgSt) (n : Nat) (ad : Nat → Nat) (o : Nat) (f : Nat → Int64) (hI : pgI n σ) (d : Int32) : Met l yL_offeredTo (.codeWith yL_offeredTo cL_offeredTo 4 (some .int) [(0, 9, 12, 13)] :: pgWd) ({ frames := 8, cells := 1, slots := 6, locals := 125 } : Room) (pgPc D (pgTys cD cC cI cZ cL) A (pgWO D cD cC cL A σ n ad o f) [.ref (ad 0), .int d, .ref o]) (va_Qi (fun (r : Int32) (_ : Unit) => r = nI (sp_askD σ d 6).1) (fun _ t9 => pgWO D cD cC cL A (sp_askD σ d 6).2.2 n ad o (if (sp_askD σ d 6).1 = 0 then vp_updL f 0 (sp_askD σ d 6).2.1.toInt64 else f) t9.heap) A) 1 6 A := by
  have hsc := @sc_askD σ d 6
  refine pg_enterW (own := RL) (by decide) rfl (Nat.le_of_ble_eq_true rfl) (fun p e s m below meth cc9 B hr ht => ?_)
  refine j_fact (fun H h => h.2.2) (fun hAo => ?_)
  refine j_aload_n B dL_offeredTo_0 2 rfl rfl ?_
  refine j_iconst B (v := 0) dL_offeredTo_1 (by decide) ?_
  refine j_aload_n B dL_offeredTo_2 0 rfl rfl ?_
  refine j_iload_n B dL_offeredTo_3 1 rfl rfl ?_
  refine j_wVi B (S := Unit) 1 [.int d] (WdC' := fun _ => pgR D cD cC (fun z => A z ∧ z ≠ o) (sp_askD σ d 6).2.2 n ad) (WdX := pgR D cD cC (fun z => A z ∧ z ≠ o) σ n ad) (fun _ => pgWO D cD cC cL A (sp_askD σ d 6).2.2 n ad o f) (pgWO D cD cC cL A σ n ad o f) (c_X2_offeredTo l hl D cD cC cI cZ cL (fun z => A z ∧ z ≠ o) σ n ad hI d) rfl (fun H h => h.1.x) q_467 q_468 q_469 q_1 q_470 hdX2_offeredTo rfl ⟨Nat.le_of_ble_eq_true rfl, Nat.le_of_ble_eq_true rfl⟩ (Nat.le_of_ble_eq_true rfl) dL_offeredTo_4 rfl ⟨Nat.le_of_ble_eq_true rfl, Nat.le_of_ble_eq_true rfl⟩ (fun _ h => h.1) (fun H h z hz hA => ⟨hA, fun z2 => by have := h.2.1.lt; omega⟩) (fun _ h => h.1) (fun H H1 u h h1 hz hk => ⟨h1, h.2.1.kept (hk o h.2.1.lt (fun z => z.2 rfl)), h.2.2⟩) (fun H H1 h h1 hz hk => ⟨h1, h.2.1.kept (hk o h.2.1.lt (fun z => z.2 rfl)), h.2.2⟩) (fun k hk => ?_) (fun r u hp => ?_)
  · obtain ⟨hk1, hk0⟩ := hk
    have hX : (sp_askD σ d 6).2.2 = σ := hsc.2 (by rw [hk1]; exact hk0)
    have hne : ¬ (sp_askD σ d 6).1 = 0 := fun z => hk0 (hk1.symm.trans z)
    have hcs : k = 1 := by have := hsc.1; omega
    rcases hcs with rfl
    · refine ⟨12, ⟨[], ⟨0, 9, 12, 13⟩, [], pgEI, ht, (fun _ h => nomatch h), by decide, by decide, B.2.2.2.2.1 _ q_90, pgB_nw B (w := .castable pgEI pgEI) (by decide) rfl, rfl⟩, fun q9 => ?_⟩
      refine j_astore_n B (L' := [(3, .ref q9), (0, .ref (ad 0)), (1, .int d), (2, .ref o)]) dL_offeredTo_12 rfl (by decide) rfl ?_
      refine j_iconst B (v := 1) dL_offeredTo_13 (by decide) ?_
      exact j_iret B hr rfl dL_offeredTo_14 (Nat.le_of_ble_eq_true rfl) (Nat.le_of_ble_eq_true rfl) () (by rw [hk1] <;> rfl) (fun H h => by rw [hX, if_neg hne]; exact h)
  · obtain ⟨h0, h1⟩ := hp
    subst h1
    refine j_i2l B dL_offeredTo_7 ?_
    refine j_last B (Wd' := pgWO D cD cC cL A (sp_askD σ d 6).2.2 n ad o (vp_updL f 0 (sp_askD σ d 6).2.1.toInt64)) (fun H h => h.2.1) 4 rfl pg_in01 dL_offeredTo_8 hAo (fun H H1 h hc hz ho => ⟨h.1.kept (fun k hk => ho _ (h.1.2.2 k hk).2), by rw [pg_c0] at hc; exact hc, hAo⟩) ?_
    refine j_goto B 15 dL_offeredTo_9 (by decide) ?_
    refine j_iconst B (v := 0) dL_offeredTo_15 (by decide) ?_
    exact j_iret B hr rfl dL_offeredTo_16 (Nat.le_of_ble_eq_true rfl) (Nat.le_of_ble_eq_true rfl) () (by rw [h0] <;> rfl) (fun H h => by rw [if_pos h0]; exact h)
/-- certificateOf, with what it throws as a number -/
theorem c_L_certificateOf (l : Launch) (hl : l.stackTraces = false) (D : va_G) (cD cC cI cZ cL : ClassId) (A : Nat → Prop) (σ : pgSt) (n : Nat) (ad : Nat → Nat) (o : Nat) (f : Nat → Int64) (hI : pgI n σ) (d : Int32) : Met l yL_certificateOf (.codeWith yL_certificateOf cL_certificateOf 4 (some .int) [(0, 9, 12, 13)] :: pgWd) ({ frames := 8, cells := 1, slots := 6, locals := 125 } : Room) (pgPc D (pgTys cD cC cI cZ cL) A (pgWO D cD cC cL A σ n ad o f) [.ref (ad 0), .int d, .ref o]) (va_Qi (fun (r : Int32) (_ : Unit) => r = nI (sp_askD σ d 9).1) (fun _ t9 => pgWO D cD cC cL A (sp_askD σ d 9).2.2 n ad o (if (sp_askD σ d 9).1 = 0 then vp_updL f 0 (sp_askD σ d 9).2.1.toInt64 else f) t9.heap) A) 1 6 A := by
  have hsc := @sc_askD σ d 9
  refine pg_enterW (own := RL) (by decide) rfl (Nat.le_of_ble_eq_true rfl) (fun p e s m below meth cc9 B hr ht => ?_)
  refine j_fact (fun H h => h.2.2) (fun hAo => ?_)
  refine j_aload_n B dL_certificateOf_0 2 rfl rfl ?_
  refine j_iconst B (v := 0) dL_certificateOf_1 (by decide) ?_
  refine j_aload_n B dL_certificateOf_2 0 rfl rfl ?_
  refine j_iload_n B dL_certificateOf_3 1 rfl rfl ?_
  refine j_wVi B (S := Unit) 1 [.int d] (WdC' := fun _ => pgR D cD cC (fun z => A z ∧ z ≠ o) (sp_askD σ d 9).2.2 n ad) (WdX := pgR D cD cC (fun z => A z ∧ z ≠ o) σ n ad) (fun _ => pgWO D cD cC cL A (sp_askD σ d 9).2.2 n ad o f) (pgWO D cD cC cL A σ n ad o f) (c_X2_certificateOf l hl D cD cC cI cZ cL (fun z => A z ∧ z ≠ o) σ n ad hI d) rfl (fun H h => h.1.x) q_474 q_475 q_476 q_1 q_477 hdX2_certificateOf rfl ⟨Nat.le_of_ble_eq_true rfl, Nat.le_of_ble_eq_true rfl⟩ (Nat.le_of_ble_eq_true rfl) dL_certificateOf_4 rfl ⟨Nat.le_of_ble_eq_true rfl, Nat.le_of_ble_eq_true rfl⟩ (fun _ h => h.1) (fun H h z hz hA => ⟨hA, fun z2 => by have := h.2.1.lt; omega⟩) (fun _ h => h.1) (fun H H1 u h h1 hz hk => ⟨h1, h.2.1.kept (hk o h.2.1.lt (fun z => z.2 rfl)), h.2.2⟩) (fun H H1 h h1 hz hk => ⟨h1, h.2.1.kept (hk o h.2.1.lt (fun z => z.2 rfl)), h.2.2⟩) (fun k hk => ?_) (fun r u hp => ?_)
  · obtain ⟨hk1, hk0⟩ := hk
    have hX : (sp_askD σ d 9).2.2 = σ := hsc.2 (by rw [hk1]; exact hk0)
    have hne : ¬ (sp_askD σ d 9).1 = 0 := fun z => hk0 (hk1.symm.trans z)
    have hcs : k = 1 := by have := hsc.1; omega
    rcases hcs with rfl
    · refine ⟨12, ⟨[], ⟨0, 9, 12, 13⟩, [], pgEI, ht, (fun _ h => nomatch h), by decide, by decide, B.2.2.2.2.1 _ q_90, pgB_nw B (w := .castable pgEI pgEI) (by decide) rfl, rfl⟩, fun q9 => ?_⟩
      refine j_astore_n B (L' := [(3, .ref q9), (0, .ref (ad 0)), (1, .int d), (2, .ref o)]) dL_certificateOf_12 rfl (by decide) rfl ?_
      refine j_iconst B (v := 1) dL_certificateOf_13 (by decide) ?_
      exact j_iret B hr rfl dL_certificateOf_14 (Nat.le_of_ble_eq_true rfl) (Nat.le_of_ble_eq_true rfl) () (by rw [hk1] <;> rfl) (fun H h => by rw [hX, if_neg hne]; exact h)
  · obtain ⟨h0, h1⟩ := hp
    subst h1
    refine j_i2l B dL_certificateOf_7 ?_
    refine j_last B (Wd' := pgWO D cD cC cL A (sp_askD σ d 9).2.2 n ad o (vp_updL f 0 (sp_askD σ d 9).2.1.toInt64)) (fun H h => h.2.1) 4 rfl pg_in01 dL_certificateOf_8 hAo (fun H H1 h hc hz ho => ⟨h.1.kept (fun k hk => ho _ (h.1.2.2 k hk).2), by rw [pg_c0] at hc; exact hc, hAo⟩) ?_
    refine j_goto B 15 dL_certificateOf_9 (by decide) ?_
    refine j_iconst B (v := 0) dL_certificateOf_15 (by decide) ?_
    exact j_iret B hr rfl dL_certificateOf_16 (Nat.le_of_ble_eq_true rfl) (Nat.le_of_ble_eq_true rfl) () (by rw [h0] <;> rfl) (fun H h => by rw [if_pos h0]; exact h)
/-- isDone, with what it throws as a number -/
theorem c_L_isDone (l : Launch) (hl : l.stackTraces = false) (D : va_G) (cD cC cI cZ cL : ClassId) (A : Nat → Prop) (σ : pgSt) (n : Nat) (ad : Nat → Nat) (o : Nat) (f : Nat → Int64) (hI : pgI n σ) (d : Int32) : Met l yL_isDone (.codeWith yL_isDone cL_isDone 4 (some .int) [(0, 16, 19, 13)] :: pgWd) ({ frames := 8, cells := 1, slots := 6, locals := 125 } : Room) (pgPc D (pgTys cD cC cI cZ cL) A (pgWO D cD cC cL A σ n ad o f) [.ref (ad 0), .int d, .ref o]) (va_Qi (fun (r : Int32) (_ : Unit) => r = nI (sp_isDone σ d).1) (fun _ t9 => pgWO D cD cC cL A (sp_isDone σ d).2.2 n ad o (if (sp_isDone σ d).1 = 0 then vp_updL f 0 (sp_isDone σ d).2.1.toInt64 else f) t9.heap) A) 1 6 A := by
  have hsc := @sc_isDone σ d
  refine pg_enterW (own := RL) (by decide) rfl (Nat.le_of_ble_eq_true rfl) (fun p e s m below meth cc9 B hr ht => ?_)
  refine j_fact (fun H h => h.2.2) (fun hAo => ?_)
  refine j_aload_n B dL_isDone_0 2 rfl rfl ?_
  refine j_iconst B (v := 0) dL_isDone_1 (by decide) ?_
  refine j_aload_n B dL_isDone_2 0 rfl rfl ?_
  refine j_iload_n B dL_isDone_3 1 rfl rfl ?_
  refine j_wVi B (S := Unit) 1 [.int d] (WdC' := fun _ => pgR D cD cC (fun z => A z ∧ z ≠ o) (sp_isDone σ d).2.2 n ad) (WdX := pgR D cD cC (fun z => A z ∧ z ≠ o) σ n ad) (fun _ => pgWO D cD cC cL A (sp_isDone σ d).2.2 n ad o f) (pgWO D cD cC cL A σ n ad o f) (c_X2_isDone l hl D cD cC cI cZ cL (fun z => A z ∧ z ≠ o) σ n ad hI d) rfl (fun H h => h.1.x) q_459 q_460 q_461 q_1 q_462 hdX2_isDone rfl ⟨Nat.le_of_ble_eq_true rfl, Nat.le_of_ble_eq_true rfl⟩ (Nat.le_of_ble_eq_true rfl) dL_isDone_4 rfl ⟨Nat.le_of_ble_eq_true rfl, Nat.le_of_ble_eq_true rfl⟩ (fun _ h => h.1) (fun H h z hz hA => ⟨hA, fun z2 => by have := h.2.1.lt; omega⟩) (fun _ h => h.1) (fun H H1 u h h1 hz hk => ⟨h1, h.2.1.kept (hk o h.2.1.lt (fun z => z.2 rfl)), h.2.2⟩) (fun H H1 h h1 hz hk => ⟨h1, h.2.1.kept (hk o h.2.1.lt (fun z => z.2 rfl)), h.2.2⟩) (fun k hk => ?_) (fun r u hp => ?_)
  · obtain ⟨hk1, hk0⟩ := hk
    have hX : (sp_isDone σ d).2.2 = σ := hsc.2 (by rw [hk1]; exact hk0)
    have hne : ¬ (sp_isDone σ d).1 = 0 := fun z => hk0 (hk1.symm.trans z)
    have hcs : k = 1 := by have := hsc.1; omega
    rcases hcs with rfl
    · refine ⟨19, ⟨[], ⟨0, 16, 19, 13⟩, [], pgEI, ht, (fun _ h => nomatch h), by decide, by decide, B.2.2.2.2.1 _ q_90, pgB_nw B (w := .castable pgEI pgEI) (by decide) rfl, rfl⟩, fun q9 => ?_⟩
      refine j_astore_n B (L' := [(3, .ref q9), (0, .ref (ad 0)), (1, .int d), (2, .ref o)]) dL_isDone_19 rfl (by decide) rfl ?_
      refine j_iconst B (v := 1) dL_isDone_20 (by decide) ?_
      exact j_iret B hr rfl dL_isDone_21 (Nat.le_of_ble_eq_true rfl) (Nat.le_of_ble_eq_true rfl) () (by rw [hk1] <;> rfl) (fun H h => by rw [hX, if_neg hne]; exact h)
  · obtain ⟨h0, h1⟩ := hp
    refine j_if_eq B 14 dL_isDone_7 (by decide) (fun h3 => ?_) (fun h3 => ?_)
    · refine j_lconst B (v := 0) dL_isDone_14 (by decide) ?_
      have e9 : (sp_isDone σ d).2.1.toInt64 = 0 := by
        rw [← h1]
        rw [h3] <;> rfl
      refine j_last B (Wd' := pgWO D cD cC cL A (sp_isDone σ d).2.2 n ad o (vp_updL f 0 (sp_isDone σ d).2.1.toInt64)) (fun H h => h.2.1) 4 rfl pg_in01 dL_isDone_15 hAo (fun H H1 h hc hz ho => ⟨h.1.kept (fun k hk => ho _ (h.1.2.2 k hk).2), by rw [pg_c0] at hc; rw [e9]; exact hc, hAo⟩) ?_
      refine j_goto B 22 dL_isDone_16 (by decide) ?_
      refine j_iconst B (v := 0) dL_isDone_22 (by decide) ?_
      exact j_iret B hr rfl dL_isDone_23 (Nat.le_of_ble_eq_true rfl) (Nat.le_of_ble_eq_true rfl) () (by rw [h0] <;> rfl) (fun H h => by rw [if_pos h0]; exact h)
    · refine j_lconst B (v := 1) dL_isDone_10 (by decide) ?_
      refine j_goto B 15 dL_isDone_11 (by decide) ?_
      have e9 : (sp_isDone σ d).2.1.toInt64 = 1 := by
        rw [← h1]
        rcases sz_isDone (σ := σ) (d := d) with z | z
        · exact absurd (h1.trans z) h3
        · rw [h1, z] <;> rfl
      refine j_last B (Wd' := pgWO D cD cC cL A (sp_isDone σ d).2.2 n ad o (vp_updL f 0 (sp_isDone σ d).2.1.toInt64)) (fun H h => h.2.1) 4 rfl pg_in01 dL_isDone_15 hAo (fun H H1 h hc hz ho => ⟨h.1.kept (fun k hk => ho _ (h.1.2.2 k hk).2), by rw [pg_c0] at hc; rw [e9]; exact hc, hAo⟩) ?_
      refine j_goto B 22 dL_isDone_16 (by decide) ?_
      refine j_iconst B (v := 0) dL_isDone_22 (by decide) ?_
      exact j_iret B hr rfl dL_isDone_23 (Nat.le_of_ble_eq_true rfl) (Nat.le_of_ble_eq_true rfl) () (by rw [h0] <;> rfl) (fun H h => by rw [if_pos h0]; exact h)
/-- crateKeeper, with what it throws as a number -/
theorem c_L_crateKeeper (l : Launch) (hl : l.stackTraces = false) (D : va_G) (cD cC cI cZ cL : ClassId) (A : Nat → Prop) (σ : pgSt) (n : Nat) (ad : Nat → Nat) (o : Nat) (f : Nat → Int64) (hI : pgI n σ) (c : Int32) : Met l yL_crateKeeper (.codeWith yL_crateKeeper cL_crateKeeper 4 (some .int) [(0, 9, 12, 13)] :: pgWd) ({ frames := 8, cells := 1, slots := 6, locals := 125 } : Room) (pgPc D (pgTys cD cC cI cZ cL) A (pgWO D cD cC cL A σ n ad o f) [.ref (ad 0), .int c, .ref o]) (va_Qi (fun (r : Int32) (_ : Unit) => r = nI (sp_askC σ c 10).1) (fun _ t9 => pgWO D cD cC cL A (sp_askC σ c 10).2.2 n ad o (if (sp_askC σ c 10).1 = 0 then vp_updL f 0 (sp_askC σ c 10).2.1.toInt64 else f) t9.heap) A) 1 6 A := by
  have hsc := @sc_askC σ c 10
  refine pg_enterW (own := RL) (by decide) rfl (Nat.le_of_ble_eq_true rfl) (fun p e s m below meth cc9 B hr ht => ?_)
  refine j_fact (fun H h => h.2.2) (fun hAo => ?_)
  refine j_aload_n B dL_crateKeeper_0 2 rfl rfl ?_
  refine j_iconst B (v := 0) dL_crateKeeper_1 (by decide) ?_
  refine j_aload_n B dL_crateKeeper_2 0 rfl rfl ?_
  refine j_iload_n B dL_crateKeeper_3 1 rfl rfl ?_
  refine j_wVi B (S := Unit) 1 [.int c] (WdC' := fun _ => pgR D cD cC (fun z => A z ∧ z ≠ o) (sp_askC σ c 10).2.2 n ad) (WdX := pgR D cD cC (fun z => A z ∧ z ≠ o) σ n ad) (fun _ => pgWO D cD cC cL A (sp_askC σ c 10).2.2 n ad o f) (pgWO D cD cC cL A σ n ad o f) (c_X2_crateKeeper l hl D cD cC cI cZ cL (fun z => A z ∧ z ≠ o) σ n ad hI c) rfl (fun H h => h.1.x) q_481 q_482 q_483 q_1 q_484 hdX2_crateKeeper rfl ⟨Nat.le_of_ble_eq_true rfl, Nat.le_of_ble_eq_true rfl⟩ (Nat.le_of_ble_eq_true rfl) dL_crateKeeper_4 rfl ⟨Nat.le_of_ble_eq_true rfl, Nat.le_of_ble_eq_true rfl⟩ (fun _ h => h.1) (fun H h z hz hA => ⟨hA, fun z2 => by have := h.2.1.lt; omega⟩) (fun _ h => h.1) (fun H H1 u h h1 hz hk => ⟨h1, h.2.1.kept (hk o h.2.1.lt (fun z => z.2 rfl)), h.2.2⟩) (fun H H1 h h1 hz hk => ⟨h1, h.2.1.kept (hk o h.2.1.lt (fun z => z.2 rfl)), h.2.2⟩) (fun k hk => ?_) (fun r u hp => ?_)
  · obtain ⟨hk1, hk0⟩ := hk
    have hX : (sp_askC σ c 10).2.2 = σ := hsc.2 (by rw [hk1]; exact hk0)
    have hne : ¬ (sp_askC σ c 10).1 = 0 := fun z => hk0 (hk1.symm.trans z)
    have hcs : k = 1 := by have := hsc.1; omega
    rcases hcs with rfl
    · refine ⟨12, ⟨[], ⟨0, 9, 12, 13⟩, [], pgEI, ht, (fun _ h => nomatch h), by decide, by decide, B.2.2.2.2.1 _ q_90, pgB_nw B (w := .castable pgEI pgEI) (by decide) rfl, rfl⟩, fun q9 => ?_⟩
      refine j_astore_n B (L' := [(3, .ref q9), (0, .ref (ad 0)), (1, .int c), (2, .ref o)]) dL_crateKeeper_12 rfl (by decide) rfl ?_
      refine j_iconst B (v := 1) dL_crateKeeper_13 (by decide) ?_
      exact j_iret B hr rfl dL_crateKeeper_14 (Nat.le_of_ble_eq_true rfl) (Nat.le_of_ble_eq_true rfl) () (by rw [hk1] <;> rfl) (fun H h => by rw [hX, if_neg hne]; exact h)
  · obtain ⟨h0, h1⟩ := hp
    subst h1
    refine j_i2l B dL_crateKeeper_7 ?_
    refine j_last B (Wd' := pgWO D cD cC cL A (sp_askC σ c 10).2.2 n ad o (vp_updL f 0 (sp_askC σ c 10).2.1.toInt64)) (fun H h => h.2.1) 4 rfl pg_in01 dL_crateKeeper_8 hAo (fun H H1 h hc hz ho => ⟨h.1.kept (fun k hk => ho _ (h.1.2.2 k hk).2), by rw [pg_c0] at hc; exact hc, hAo⟩) ?_
    refine j_goto B 15 dL_crateKeeper_9 (by decide) ?_
    refine j_iconst B (v := 0) dL_crateKeeper_15 (by decide) ?_
    exact j_iret B hr rfl dL_crateKeeper_16 (Nat.le_of_ble_eq_true rfl) (Nat.le_of_ble_eq_true rfl) () (by rw [h0] <;> rfl) (fun H h => by rw [if_pos h0]; exact h)
/-- sealOf, with what it throws as a number -/
theorem c_L_sealOf (l : Launch) (hl : l.stackTraces = false) (D : va_G) (cD cC cI cZ cL : ClassId) (A : Nat → Prop) (σ : pgSt) (n : Nat) (ad : Nat → Nat) (o : Nat) (f : Nat → Int64) (hI : pgI n σ) (c : Int32) : Met l yL_sealOf (.codeWith yL_sealOf cL_sealOf 4 (some .int) [(0, 9, 12, 13)] :: pgWd) ({ frames := 8, cells := 1, slots := 6, locals := 125 } : Room) (pgPc D (pgTys cD cC cI cZ cL) A (pgWO D cD cC cL A σ n ad o f) [.ref (ad 0), .int c, .ref o]) (va_Qi (fun (r : Int32) (_ : Unit) => r = nI (sp_askC σ c 11).1) (fun _ t9 => pgWO D cD cC cL A (sp_askC σ c 11).2.2 n ad o (if (sp_askC σ c 11).1 = 0 then vp_updL f 0 (sp_askC σ c 11).2.1.toInt64 else f) t9.heap) A) 1 6 A := by
  have hsc := @sc_askC σ c 11
  refine pg_enterW (own := RL) (by decide) rfl (Nat.le_of_ble_eq_true rfl) (fun p e s m below meth cc9 B hr ht => ?_)
  refine j_fact (fun H h => h.2.2) (fun hAo => ?_)
  refine j_aload_n B dL_sealOf_0 2 rfl rfl ?_
  refine j_iconst B (v := 0) dL_sealOf_1 (by decide) ?_
  refine j_aload_n B dL_sealOf_2 0 rfl rfl ?_
  refine j_iload_n B dL_sealOf_3 1 rfl rfl ?_
  refine j_wVi B (S := Unit) 1 [.int c] (WdC' := fun _ => pgR D cD cC (fun z => A z ∧ z ≠ o) (sp_askC σ c 11).2.2 n ad) (WdX := pgR D cD cC (fun z => A z ∧ z ≠ o) σ n ad) (fun _ => pgWO D cD cC cL A (sp_askC σ c 11).2.2 n ad o f) (pgWO D cD cC cL A σ n ad o f) (c_X2_sealOf l hl D cD cC cI cZ cL (fun z => A z ∧ z ≠ o) σ n ad hI c) rfl (fun H h => h.1.x) q_488 q_489 q_490 q_1 q_491 hdX2_sealOf rfl ⟨Nat.le_of_ble_eq_true rfl, Nat.le_of_ble_eq_true rfl⟩ (Nat.le_of_ble_eq_true rfl) dL_sealOf_4 rfl ⟨Nat.le_of_ble_eq_true rfl, Nat.le_of_ble_eq_true rfl⟩ (fun _ h => h.1) (fun H h z hz hA => ⟨hA, fun z2 => by have := h.2.1.lt; omega⟩) (fun _ h => h.1) (fun H H1 u h h1 hz hk => ⟨h1, h.2.1.kept (hk o h.2.1.lt (fun z => z.2 rfl)), h.2.2⟩) (fun H H1 h h1 hz hk => ⟨h1, h.2.1.kept (hk o h.2.1.lt (fun z => z.2 rfl)), h.2.2⟩) (fun k hk => ?_) (fun r u hp => ?_)
  · obtain ⟨hk1, hk0⟩ := hk
    have hX : (sp_askC σ c 11).2.2 = σ := hsc.2 (by rw [hk1]; exact hk0)
    have hne : ¬ (sp_askC σ c 11).1 = 0 := fun z => hk0 (hk1.symm.trans z)
    have hcs : k = 1 := by have := hsc.1; omega
    rcases hcs with rfl
    · refine ⟨12, ⟨[], ⟨0, 9, 12, 13⟩, [], pgEI, ht, (fun _ h => nomatch h), by decide, by decide, B.2.2.2.2.1 _ q_90, pgB_nw B (w := .castable pgEI pgEI) (by decide) rfl, rfl⟩, fun q9 => ?_⟩
      refine j_astore_n B (L' := [(3, .ref q9), (0, .ref (ad 0)), (1, .int c), (2, .ref o)]) dL_sealOf_12 rfl (by decide) rfl ?_
      refine j_iconst B (v := 1) dL_sealOf_13 (by decide) ?_
      exact j_iret B hr rfl dL_sealOf_14 (Nat.le_of_ble_eq_true rfl) (Nat.le_of_ble_eq_true rfl) () (by rw [hk1] <;> rfl) (fun H h => by rw [hX, if_neg hne]; exact h)
  · obtain ⟨h0, h1⟩ := hp
    subst h1
    refine j_i2l B dL_sealOf_7 ?_
    refine j_last B (Wd' := pgWO D cD cC cL A (sp_askC σ c 11).2.2 n ad o (vp_updL f 0 (sp_askC σ c 11).2.1.toInt64)) (fun H h => h.2.1) 4 rfl pg_in01 dL_sealOf_8 hAo (fun H H1 h hc hz ho => ⟨h.1.kept (fun k hk => ho _ (h.1.2.2 k hk).2), by rw [pg_c0] at hc; exact hc, hAo⟩) ?_
    refine j_goto B 15 dL_sealOf_9 (by decide) ?_
    refine j_iconst B (v := 0) dL_sealOf_15 (by decide) ?_
    exact j_iret B hr rfl dL_sealOf_16 (Nat.le_of_ble_eq_true rfl) (Nat.le_of_ble_eq_true rfl) () (by rw [h0] <;> rfl) (fun H h => by rw [if_pos h0]; exact h)
/-- bring, with what it throws as a number -/
theorem c_L_bring (l : Launch) (hl : l.stackTraces = false) (D : va_G) (cD cC cI cZ cL : ClassId) (A : Nat → Prop) (σ : pgSt) (n : Nat) (ad : Nat → Nat) (o : Nat) (f : Nat → Int64) (hI : pgI n σ) (kind : Int32) (secr : Int32) (keeper : Int32) : Met l yL_bring (.codeWith yL_bring cL_bring 6 (some .int) [(0, 12, 15, 13), (0, 12, 19, 15), (0, 12, 23, 17)] :: pgWd) ({ frames := 8, cells := 3, slots := 23, locals := 127 } : Room) (pgPc D (pgTys cD cC cI cZ cL) A (pgWO D cD cC cL A σ n ad o f) [.ref (ad 0), .int kind, .int secr, .int keeper, .ref o]) (va_Qi (fun (r : Int32) (u : Nat → Nat) => r = nI (sp_bring σ kind secr keeper).1 ∧ u 0 = ad 0) (fun u t9 => pgWO D cD cC cL A (sp_bring σ kind secr keeper).2.2 (if (sp_bring σ kind secr keeper).1 = 0 then n + 1 else n) u o (if (sp_bring σ kind secr keeper).1 = 0 then vp_updL f 0 (sp_bring σ kind secr keeper).2.1.toInt64 else f) t9.heap) A) 3 23 A := by
  have hsc := @sc_bring σ kind secr keeper
  refine pg_enterW (own := RL) (by decide) rfl (Nat.le_of_ble_eq_true rfl) (fun p e s m below meth cc9 B hr ht => ?_)
  refine j_fact (fun H h => h.2.2) (fun hAo => ?_)
  refine j_aload B dL_bring_0 4 rfl ?_
  refine j_iconst B (v := 0) dL_bring_2 (by decide) ?_
  refine j_aload_n B dL_bring_3 0 rfl rfl ?_
  refine j_iload_n B dL_bring_4 1 rfl rfl ?_
  refine j_iload_n B dL_bring_5 2 rfl rfl ?_
  refine j_iload_n B dL_bring_6 3 rfl rfl ?_
  refine j_wVi B (S := Nat → Nat) 3 [.int kind, .int secr, .int keeper] (WdC' := fun u => pgR D cD cC (fun z => A z ∧ z ≠ o) (sp_bring σ kind secr keeper).2.2 (n + 1) u) (WdX := pgR D cD cC (fun z => A z ∧ z ≠ o) σ n ad) (fun u => pgWO D cD cC cL A (sp_bring σ kind secr keeper).2.2 (n + 1) u o f) (pgWO D cD cC cL A σ n ad o f) (c_X2_bring l hl D cD cC cI cZ cL (fun z => A z ∧ z ≠ o) σ n ad hI kind secr keeper) rfl (fun H h => h.1.x) q_93 q_94 q_95 q_1 q_96 hdX2_bring rfl ⟨Nat.le_of_ble_eq_true rfl, Nat.le_of_ble_eq_true rfl⟩ (Nat.le_of_ble_eq_true rfl) dL_bring_7 rfl ⟨Nat.le_of_ble_eq_true rfl, Nat.le_of_ble_eq_true rfl⟩ (fun _ h => h.1) (fun H h z hz hA => ⟨hA, fun z2 => by have := h.2.1.lt; omega⟩) (fun _ h => h.1) (fun H H1 u h h1 hz hk => ⟨h1, h.2.1.kept (hk o h.2.1.lt (fun z => z.2 rfl)), h.2.2⟩) (fun H H1 h h1 hz hk => ⟨h1, h.2.1.kept (hk o h.2.1.lt (fun z => z.2 rfl)), h.2.2⟩) (fun k hk => ?_) (fun r u hp => ?_)
  · obtain ⟨hk1, hk0⟩ := hk
    have hX : (sp_bring σ kind secr keeper).2.2 = σ := hsc.2 (by rw [hk1]; exact hk0)
    have hne : ¬ (sp_bring σ kind secr keeper).1 = 0 := fun z => hk0 (hk1.symm.trans z)
    have hcs : k = 1 ∨ k = 2 ∨ k = 3 := by have := hsc.1; omega
    rcases hcs with rfl | rfl | rfl
    · refine ⟨15, ⟨[], ⟨0, 12, 15, 13⟩, [⟨0, 12, 19, 15⟩, ⟨0, 12, 23, 17⟩], pgEI, ht, (fun _ h => nomatch h), by decide, by decide, B.2.2.2.2.1 _ q_90, pgB_nw B (w := .castable pgEI pgEI) (by decide) rfl, rfl⟩, fun q9 => ?_⟩
      refine j_astore B (L' := [(5, .ref q9), (0, .ref (ad 0)), (1, .int kind), (2, .int secr), (3, .int keeper), (4, .ref o)]) dL_bring_15 (by decide) rfl ?_
      refine j_iconst B (v := 1) dL_bring_17 (by decide) ?_
      exact j_iret B hr rfl dL_bring_18 (Nat.le_of_ble_eq_true rfl) (Nat.le_of_ble_eq_true rfl) ad (⟨by rw [hk1] <;> rfl, rfl⟩) (fun H h => by rw [hX, if_neg hne, if_neg hne]; exact h)
    · refine ⟨19, ⟨[⟨0, 12, 15, 13⟩], ⟨0, 12, 19, 15⟩, [⟨0, 12, 23, 17⟩], pgEA, ht, List.forall_mem_cons.mpr ⟨Or.inr ⟨by decide, pgEI, B.2.2.2.2.1 _ q_90, pgB_nc B (pgEA, pgEI) (by decide)⟩, (fun _ h => nomatch h)⟩, by decide, by decide, B.2.2.2.2.1 _ q_91, pgB_nw B (w := .castable pgEA pgEA) (by decide) rfl, rfl⟩, fun q9 => ?_⟩
      refine j_astore B (L' := [(5, .ref q9), (0, .ref (ad 0)), (1, .int kind), (2, .int secr), (3, .int keeper), (4, .ref o)]) dL_bring_19 (by decide) rfl ?_
      refine j_iconst B (v := 2) dL_bring_21 (by decide) ?_
      exact j_iret B hr rfl dL_bring_22 (Nat.le_of_ble_eq_true rfl) (Nat.le_of_ble_eq_true rfl) ad (⟨by rw [hk1] <;> rfl, rfl⟩) (fun H h => by rw [hX, if_neg hne, if_neg hne]; exact h)
    · refine ⟨23, ⟨[⟨0, 12, 15, 13⟩, ⟨0, 12, 19, 15⟩], ⟨0, 12, 23, 17⟩, [], pgES, ht, List.forall_mem_cons.mpr ⟨Or.inr ⟨by decide, pgEI, B.2.2.2.2.1 _ q_90, pgB_nc B (pgES, pgEI) (by decide)⟩, List.forall_mem_cons.mpr ⟨Or.inr ⟨by decide, pgEA, B.2.2.2.2.1 _ q_91, pgB_nc B (pgES, pgEA) (by decide)⟩, (fun _ h => nomatch h)⟩⟩, by decide, by decide, B.2.2.2.2.1 _ q_92, pgB_nw B (w := .castable pgES pgES) (by decide) rfl, rfl⟩, fun q9 => ?_⟩
      refine j_astore B (L' := [(5, .ref q9), (0, .ref (ad 0)), (1, .int kind), (2, .int secr), (3, .int keeper), (4, .ref o)]) dL_bring_23 (by decide) rfl ?_
      refine j_iconst B (v := 3) dL_bring_25 (by decide) ?_
      exact j_iret B hr rfl dL_bring_26 (Nat.le_of_ble_eq_true rfl) (Nat.le_of_ble_eq_true rfl) ad (⟨by rw [hk1] <;> rfl, rfl⟩) (fun H h => by rw [hX, if_neg hne, if_neg hne]; exact h)
  · obtain ⟨h0, h1, h2⟩ := hp
    subst h1
    refine j_i2l B dL_bring_10 ?_
    refine j_last B (Wd' := pgWO D cD cC cL A (sp_bring σ kind secr keeper).2.2 (n + 1) u o (vp_updL f 0 (sp_bring σ kind secr keeper).2.1.toInt64)) (fun H h => h.2.1) 4 rfl pg_in01 dL_bring_11 hAo (fun H H1 h hc hz ho => ⟨h.1.kept (fun k hk => ho _ (h.1.2.2 k hk).2), by rw [pg_c0] at hc; exact hc, hAo⟩) ?_
    refine j_goto B 27 dL_bring_12 (by decide) ?_
    refine j_iconst B (v := 0) dL_bring_27 (by decide) ?_
    exact j_iret B hr rfl dL_bring_28 (Nat.le_of_ble_eq_true rfl) (Nat.le_of_ble_eq_true rfl) u (⟨by rw [h0] <;> rfl, h2⟩) (fun H h => by rw [if_pos h0, if_pos h0]; exact h)
/-- certify, with what it throws as a number -/
theorem c_L_certify (l : Launch) (hl : l.stackTraces = false) (D : va_G) (cD cC cI cZ cL : ClassId) (A : Nat → Prop) (σ : pgSt) (n : Nat) (ad : Nat → Nat) (o : Nat) (f : Nat → Int64) (hI : pgI n σ) (k0 : Int32) : Met l yL_certify (.codeWith yL_certify cL_certify 4 (some .int) [(0, 9, 12, 13), (0, 9, 15, 62)] :: pgWd) ({ frames := 8, cells := 2, slots := 12, locals := 128 } : Room) (pgPc D (pgTys cD cC cI cZ cL) A (pgWO D cD cC cL A σ n ad o f) [.ref (ad 0), .int k0, .ref o]) (va_Qi (fun (r : Int32) (_ : Unit) => r = pgKB (sp_certify σ k0).1) (fun _ t9 => pgWO D cD cC cL A (sp_certify σ k0).2.2 n ad o (if (sp_certify σ k0).1 = 0 then vp_updL f 0 (sp_certify σ k0).2.1.toInt64 else f) t9.heap) A) 2 12 A := by
  have hsc := @sc_certify σ k0
  refine pg_enterW (own := RL) (by decide) rfl (Nat.le_of_ble_eq_true rfl) (fun p e s m below meth cc9 B hr ht => ?_)
  refine j_fact (fun H h => h.2.2) (fun hAo => ?_)
  refine j_aload_n B dL_certify_0 2 rfl rfl ?_
  refine j_iconst B (v := 0) dL_certify_1 (by decide) ?_
  refine j_aload_n B dL_certify_2 0 rfl rfl ?_
  refine j_iload_n B dL_certify_3 1 rfl rfl ?_
  refine j_wVi B (S := Unit) 1 [.int k0] (WdC' := fun _ => pgR D cD cC (fun z => A z ∧ z ≠ o) (sp_certify σ k0).2.2 n ad) (WdX := pgR D cD cC (fun z => A z ∧ z ≠ o) σ n ad) (fun _ => pgWO D cD cC cL A (sp_certify σ k0).2.2 n ad o f) (pgWO D cD cC cL A σ n ad o f) (c_X2_certify l hl D cD cC cI cZ cL (fun z => A z ∧ z ≠ o) σ n ad hI k0) rfl (fun H h => h.1.x) q_400 q_401 q_402 q_1 q_403 hdX2_certify rfl ⟨Nat.le_of_ble_eq_true rfl, Nat.le_of_ble_eq_true rfl⟩ (Nat.le_of_ble_eq_true rfl) dL_certify_4 rfl ⟨Nat.le_of_ble_eq_true rfl, Nat.le_of_ble_eq_true rfl⟩ (fun _ h => h.1) (fun H h z hz hA => ⟨hA, fun z2 => by have := h.2.1.lt; omega⟩) (fun _ h => h.1) (fun H H1 u h h1 hz hk => ⟨h1, h.2.1.kept (hk o h.2.1.lt (fun z => z.2 rfl)), h.2.2⟩) (fun H H1 h h1 hz hk => ⟨h1, h.2.1.kept (hk o h.2.1.lt (fun z => z.2 rfl)), h.2.2⟩) (fun k hk => ?_) (fun r u hp => ?_)
  · obtain ⟨hk1, hk0⟩ := hk
    have hX : (sp_certify σ k0).2.2 = σ := hsc.2 (by rw [hk1]; exact hk0)
    have hne : ¬ (sp_certify σ k0).1 = 0 := fun z => hk0 (hk1.symm.trans z)
    have hcs : k = 1 ∨ k = 4 := by have := hsc.1; omega
    rcases hcs with rfl | rfl
    · refine ⟨12, ⟨[], ⟨0, 9, 12, 13⟩, [⟨0, 9, 15, 62⟩], pgEI, ht, (fun _ h => nomatch h), by decide, by decide, B.2.2.2.2.1 _ q_90, pgB_nw B (w := .castable pgEI pgEI) (by decide) rfl, rfl⟩, fun q9 => ?_⟩
      refine j_astore_n B (L' := [(3, .ref q9), (0, .ref (ad 0)), (1, .int k0), (2, .ref o)]) dL_certify_12 rfl (by decide) rfl ?_
      refine j_iconst B (v := 1) dL_certify_13 (by decide) ?_
      exact j_iret B hr rfl dL_certify_14 (Nat.le_of_ble_eq_true rfl) (Nat.le_of_ble_eq_true rfl) () (by rw [hk1] <;> rfl) (fun H h => by rw [hX, if_neg hne]; exact h)
    · refine ⟨15, ⟨[⟨0, 9, 12, 13⟩], ⟨0, 9, 15, 62⟩, [], pgEN, ht, List.forall_mem_cons.mpr ⟨Or.inr ⟨by decide, pgEI, B.2.2.2.2.1 _ q_90, pgB_nc B (pgEN, pgEI) (by decide)⟩, (fun _ h => nomatch h)⟩, by decide, by decide, B.2.2.2.2.1 _ q_399, pgB_nw B (w := .castable pgEN pgEN) (by decide) rfl, rfl⟩, fun q9 => ?_⟩
      refine j_astore_n B (L' := [(3, .ref q9), (0, .ref (ad 0)), (1, .int k0), (2, .ref o)]) dL_certify_15 rfl (by decide) rfl ?_
      refine j_iconst B (v := 2) dL_certify_16 (by decide) ?_
      exact j_iret B hr rfl dL_certify_17 (Nat.le_of_ble_eq_true rfl) (Nat.le_of_ble_eq_true rfl) () (by rw [hk1] <;> rfl) (fun H h => by rw [hX, if_neg hne]; exact h)
  · obtain ⟨h0, h1⟩ := hp
    subst h1
    refine j_i2l B dL_certify_7 ?_
    refine j_last B (Wd' := pgWO D cD cC cL A (sp_certify σ k0).2.2 n ad o (vp_updL f 0 (sp_certify σ k0).2.1.toInt64)) (fun H h => h.2.1) 4 rfl pg_in01 dL_certify_8 hAo (fun H H1 h hc hz ho => ⟨h.1.kept (fun k hk => ho _ (h.1.2.2 k hk).2), by rw [pg_c0] at hc; exact hc, hAo⟩) ?_
    refine j_goto B 18 dL_certify_9 (by decide) ?_
    refine j_iconst B (v := 0) dL_certify_18 (by decide) ?_
    exact j_iret B hr rfl dL_certify_19 (Nat.le_of_ble_eq_true rfl) (Nat.le_of_ble_eq_true rfl) () (by rw [h0] <;> rfl) (fun H h => by rw [if_pos h0]; exact h)
