def R_law : String := "ShredrollLaw"
def lw_P (b : Addr) (xs : List Int32) (args : Array Value) (s : State) : Prop := args = #[.ref b] ∧ s.IntsAt b xs ∧ xs.length ≤ 2048 ∧ (Jvm.Cond.and given_1 narrow_1).before args s = true
def lw_Q (_ : Array Value) (s : State) (o : Outcome) (t : State) : Prop := o = .returned (some (.int 1)) ∧ Framed s o t [] 601024 7293034
def lw_Z (below : List Frame) (a : Array Value) (s : State) : State → Prop := fun t => ∃ o, t.status = .running ∧ Ended t below o ∧ lw_Q a s o t
/-- the law's own end, with 1 on the stack, nothing written that was there before, its room as the claim has it -/
theorem lw_ret {p : Program} {l : Launch} {e : Env} {s : State} {m : MethodId} {below : List Frame} {meth : Method} {c : Code} {b : Nat} (hx : p.tables.exec = Jvm.exec) (hb : c.code = code) (hr : meth.sig.returnType = ret) (hlocks : meth.locks = false) {pc : Nat} {H : Heap} {ls : Array Slot} (hdg : decode code pc = .ok (.ireturn, 1)) : W p l e room_1 s m #[Value.ref b] below meth c H [] 601024 7293034 (lw_Z below #[Value.ref b] s) (F0 m pc ls [.int 1]) := by
  intro T hT X
  obtain ⟨fs, hret, hrun, hended, hW, hframe⟩ := X.leave (v := some (.int 1)) (hlocks := hlocks) (fun h => by rw [hr] at h; cases h)
  have hmeth' : T.vm.method? m = some meth := X.method'
  refine ⟨T.setFrames fs, ?_, .returned (some (.int 1)), hrun, hended, rfl, ⟨_, rfl⟩, hW, hframe⟩
  jvm_step X.here [X.here.top, hx, hb, hdg, hmeth', hr, ret, narrow_b1]
  (try refine ⟨rfl, ?_⟩); (try refine ⟨rfl, ?_⟩)
  first | (intro acts; rw [hret _ acts rfl rfl rfl]) | rw [hret _ _ rfl rfl rfl]
  exact Steps.refl _
/-- what holds at the law's entry: the machine, the code, the tables' words (any of lw_tbl by 'hts w (by decide +kernel)'), the script of L ints xs at the cell b, what the Statement gives of the start (any of its parts by flat_of_before) -/
def lw_At (p : Program) (s : State) (m : MethodId) (meth : Method) (c : Code) (b L : Nat) (xs : Nat → Int32) : Prop :=
  p.tables.exec = Jvm.exec ∧ c.code = code ∧ meth.sig.returnType = ret ∧ c.maxLocals = 7 ∧ s.vm.findClass R_law = some m.cls ∧ (∀ w ∈ lw_tbl, w.before #[Value.ref b] s = true) ∧ va_X b L xs s s.heap ∧ b < s.heap.size ∧ meth.locks = false ∧ (Jvm.Cond.and given_1 narrow_1).before #[Value.ref b] s = true
/-- the law's world: the class beside the law's array, and the reference, apart from them -/
def pgWL (D : va_G) (cD cC cI cZ cL : ClassId) (A : Nat → Prop) (σ : pgSt) (n : Nat) (ad : Nat → Nat) (o : Nat) (f : Nat → Int64) (σr : pgSt) (ρ : Nat → Int32) (th : Int32) (md : Nat → Nat) (H : Heap) : Prop :=
  pgWO D cD cC cL (fun z => A z ∧ ∀ k, k < 14 → z ≠ md k) σ n ad o f H ∧ pgM D cI cZ (fun z => A z ∧ z ≠ o ∧ ∀ k, k < 13 + n → z ≠ ad k) σr ρ th md H
section PGWL
variable {D : va_G} {cD cC cI cZ cL : ClassId} {A : Nat → Prop} {σ σ2 σr σr2 : pgSt} {n n2 : Nat} {ad ad2 : Nat → Nat} {o : Nat} {f f2 : Nat → Int64} {ρ ρ2 : Nat → Int32} {th th2 : Int32} {md : Nat → Nat} {H H1 : Heap}
theorem pgWL.cls (h : pgWL D cD cC cI cZ cL A σ n ad o f σr ρ th md H) (h1 : pgWO D cD cC cL (fun z => A z ∧ ∀ k, k < 14 → z ≠ md k) σ2 n2 ad2 o f2 H1) (hk : ∀ q : Nat, q < H.size → ¬ (A q ∧ ∀ k, k < 14 → q ≠ md k) → H1[q]? = H[q]?) : pgWL D cD cC cI cZ cL A σ2 n2 ad2 o f2 σr ρ th md H1 := by
  refine ⟨h1, fun k hk9 => (h.2.1 k hk9).kept (hk _ (h.2.lt hk9) (fun z => z.2 k hk9 rfl)), h.2.2.1, fun k hk9 => ⟨(h.2.2.2 k hk9).1, (h.2.2.2 k hk9).2.1, fun j hj e => ?_⟩⟩
  exact (h1.1.2.2 j hj).1.2 k hk9 e.symm
theorem pgWL.cls0 (h : pgWL D cD cC cI cZ cL A σ n ad o f σr ρ th md H) (h1 : pgR D cD cC (fun z => (A z ∧ ∀ k, k < 14 → z ≠ md k) ∧ z ≠ o) σ2 n2 ad2 H1) (hk : ∀ q : Nat, q < H.size → ¬ ((A q ∧ ∀ k, k < 14 → q ≠ md k) ∧ q ≠ o) → H1[q]? = H[q]?) : pgWL D cD cC cI cZ cL A σ2 n2 ad2 o f σr ρ th md H1 :=
  h.cls ⟨h1, h.1.2.1.kept (hk o h.1.2.1.lt (fun z => z.2 rfl)), h.1.2.2⟩ (fun q hq hn => hk q hq (fun z => hn z.1))
theorem pgWL.rf (h : pgWL D cD cC cI cZ cL A σ n ad o f σr ρ th md H) (h1 : pgM D cI cZ (fun z => A z ∧ z ≠ o ∧ ∀ k, k < 13 + n → z ≠ ad k) σr2 ρ2 th2 md H1) (hk : ∀ q : Nat, q < H.size → ¬ (A q ∧ q ≠ o ∧ ∀ k, k < 13 + n → q ≠ ad k) → H1[q]? = H[q]?) : pgWL D cD cC cI cZ cL A σ n ad o f σr2 ρ2 th2 md H1 :=
  ⟨⟨h.1.1.kept (fun k hk9 => hk _ (h.1.1.lt hk9) (fun z => z.2.2 k hk9 rfl)), h.1.2.1.kept (hk _ h.1.2.1.lt (fun z => z.2.1 rfl)), h.1.2.2⟩, h1⟩
theorem pgWL.new1 (h : pgWL D cD cC cI cZ cL A σ n ad o f σr ρ th md H) : ∀ q : Nat, H.size ≤ q → A q → A q ∧ ∀ k, k < 14 → q ≠ md k := fun q hq ha => ⟨ha, fun k hk e => by have := h.2.lt hk; omega⟩
theorem pgWL.new0 (h : pgWL D cD cC cI cZ cL A σ n ad o f σr ρ th md H) : ∀ q : Nat, H.size ≤ q → A q → (A q ∧ ∀ k, k < 14 → q ≠ md k) ∧ q ≠ o := fun q hq ha => ⟨h.new1 q hq ha, fun e => by have := h.1.2.1.lt; omega⟩
theorem pgWL.new2 (h : pgWL D cD cC cI cZ cL A σ n ad o f σr ρ th md H) : ∀ q : Nat, H.size ≤ q → A q → A q ∧ q ≠ o ∧ ∀ k, k < 13 + n → q ≠ ad k := fun q hq ha => ⟨ha, fun e => by have := h.1.2.1.lt; omega, fun k hk e => by have := h.1.1.lt hk; omega⟩
end PGWL
section PGLJ
variable {p : Program} {l : Launch} {e : Env} {R : Room} {s : State} {m : MethodId} {args : Array Value} {below : List Frame} {meth : Method} {c : Code} {own : String} {cc : ByteArray} {nL : Nat} {D : va_G} {tys : List (ClassId × FieldType)} {A : Nat → Prop} {Wd : Heap → Prop} {cells slots : Nat} {Q : State → Prop} {pc : Nat} {L : List (Nat × Value)} {st stk : List Value}
theorem j_sld (B : pgB p m c s args meth own cc nL D tys A) {b L0 : Nat} {xs : Nat → Int32} (hX : va_X b L0 xs s s.heap) (hbl : b < s.heap.size) (hbA : ¬ A b) {i : Int32} (hin : vp_in i L0) (hdg : decode cc pc = .ok (.iaload, 1)) (kk : pgJ p l e R s m args below meth c nL A Wd cells slots Q (pc + 1) L (.int (xs i.toNatClampNeg) :: st)) : pgJ p l e R s m args below meth c nL A Wd cells slots Q pc L (.int i :: .ref b :: st) := fun H locs ls hS hW hl => va_sld B.1 B.2.1 hX hbl hbA hS hin hdg (kk H locs ls hS hW hl)
theorem j_slen (B : pgB p m c s args meth own cc nL D tys A) {b L0 : Nat} {xs : Nat → Int32} (hX : va_X b L0 xs s s.heap) (hbl : b < s.heap.size) (hbA : ¬ A b) (hdg : decode cc pc = .ok (.arraylength, 1)) (kk : pgJ p l e R s m args below meth c nL A Wd cells slots Q (pc + 1) L (.int (Int32.ofNat L0) :: st)) : pgJ p l e R s m args below meth c nL A Wd cells slots Q pc L (.ref b :: st) := fun H locs ls hS hW hl => va_slen B.1 B.2.1 hX hbl hbA hS hdg (kk H locs ls hS hW hl)
theorem j_tabOut (B : pgB p m c s args meth own cc nL D tys A) {dflt lo hi : Int} {offs : Array Int} {len : Nat} {x : Int32} (tgt : Nat) (hdg : decode cc pc = .ok (.tableswitch dflt lo hi offs, len)) (h : x.toInt < lo ∨ hi < x.toInt) (ht : (pc : Int) + dflt = (tgt : Int)) (kk : pgJ p l e R s m args below meth c nL A Wd cells slots Q tgt L st) : pgJ p l e R s m args below meth c nL A Wd cells slots Q pc L (.int x :: st) := fun H locs ls hS hW hl => lv_tableOut B.1 B.2.1 hdg h ht (kk H locs ls hS hW hl)
theorem j_tabIn (B : pgB p m c s args meth own cc nL D tys A) {dflt lo hi : Int} {offs : Array Int} {len : Nat} {x : Int32} {off : Int} (tgt : Nat) (hdg : decode cc pc = .ok (.tableswitch dflt lo hi offs, len)) (h1 : ¬ x.toInt < lo) (h2 : ¬ hi < x.toInt) (ho : offs[(x.toInt - lo).toNat]? = some off) (ht : (pc : Int) + off = (tgt : Int)) (kk : pgJ p l e R s m args below meth c nL A Wd cells slots Q tgt L st) : pgJ p l e R s m args below meth c nL A Wd cells slots Q pc L (.int x :: st) := fun H locs ls hS hW hl => lv_tableIn B.1 B.2.1 hdg h1 h2 ho ht (kk H locs ls hS hW hl)
end PGLJ
theorem pg_cmp9 {k : Nat} {f : Nat → Int64} {v x : Int64} (h0 : k = 0) (h : v = x) : lg_cmp ((if k = 0 then vp_updL f 0 v else f) (0 : Int32).toNatClampNeg) x = 0 := by
  subst h
  rw [if_pos h0, pg_c0]
  simp [vp_updL, lg_cmp]
theorem pg_kx0 {k : Nat} (h : k = 0 ∨ k = 1 ∨ k = 2 ∨ k = 3 ∨ k = 4) : (nI k = 0 → k = 0) ∧ (pgKB k = 0 → k = 0) := by
  rcases h with rfl | rfl | rfl | rfl | rfl <;> decide
theorem sp_log {n : Nat} {σ : pgSt} {d : Int32} (hI : pgI n σ) : sp_askD σ d 14 = sp_askD σ d 2 := by
  by_cases z : pgIsD σ d
  · have e := hI.2.2.2.2.2 _ (z.at hI).1
    simp only [sp_askD, e]
  · simp only [sp_askD, if_pos z]
