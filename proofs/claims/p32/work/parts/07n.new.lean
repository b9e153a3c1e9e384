/-- one new cell q, with e in it, behind a heap of that world -/
def pgFresh (D : va_G) (Wd : Heap → Prop) (q : Nat) (x : va_E) : Heap → Prop := fun H1 => ∃ H : Heap, Wd H ∧ H.size = q ∧ H1.size = q + 1 ∧ (∀ z : Nat, z < q → H1[z]? = H[z]?) ∧ va_at D vwCl (q, x) H1
section PGN
variable {p : Program} {l : Launch} {e : Env} {R : Room} {s : State} {m : MethodId} {args : Array Value} {below : List Frame} {meth : Method} {c : Code} {own : String} {cc : ByteArray} {nL : Nat} {D : va_G} {tys : List (ClassId × FieldType)} {A : Nat → Prop} {Wd : Heap → Prop} {cells slots : Nat} {Q : State → Prop} {pc : Nat} {L : List (Nat × Value)} {st stk : List Value}
theorem j_objInit (B : pgB p m c s args meth own cc nL D tys A) {idx : Nat} {a : Nat} (q1 : Cond.methodLink own idx objectInit ∈ pgWd) (q2 : Cond.instanceMethod objectInit ∈ pgWd) (q3 : Cond.code objectInit ⟨#[0xb1]⟩ 1 none ∈ pgWd) (hdg : decode cc pc = .ok (.invokespecial idx, 3)) (hf : 1 ≤ R.frames) (hlo : (st.map fun v => v.category).sum + 12 ≤ R.locals) (kk : pgJ p l e R s m args below meth c nL A (Wd) (cells) (slots) (Q) (pc + 3) (L) (st)) : pgJ p l e R s m args below meth c nL A (Wd) (cells) (slots) (Q) (pc) (L) (.ref a :: st) := by
  intro H locs ls hS hW hl
  refine W.objInit B.1 B.2.1 B.2.2.2.1 (B.2.2.2.2.1 _ q1) (B.2.2.2.2.1 _ q2) (B.2.2.2.2.1 _ q3) rfl (by rw [B.2.2.1]; exact hl.1) rfl hdg hf (by show 2 * 0 + _ + 12 ≤ _; omega) ?_
  exact kk H locs ls hS hW hl
theorem j_new (B : pgB p m c s args meth own cc nL D tys A) {C : String} {T : u_T} {N ci index : Nat} {fs : List Value} (hin : ∀ w ∈ u_ws C T N, w ∈ pgWd) (ty : Nat → FieldType) (hty : ∀ k, k < N → parseFieldDescriptor (T k).2.2.1 = some (ty k)) (q1 : Cond.classLink own index C ∈ pgWd) (q2 : Cond.instantiable C N ∈ pgWd) (q3 : Cond.initialized C ∈ pgWd) (hc : vwCl[ci]? = some (C, T, N)) (hfs : ∀ j, j < N → defaultValue (ty j) = vp_V fs j) (hcells : cells + 1 ≤ R.cells) (hslots : slots + N ≤ R.slots) (hdg : decode cc pc = .ok (.new index, 3)) (kk : ∀ q : Nat, A q → pgJ p l e R s m args below meth c nL A (pgFresh D Wd q (.inr (ci, fs))) (cells + 1) (slots + N) (Q) (pc + 3) (L) (.ref q :: st)) : pgJ p l e R s m args below meth c nL A (Wd) (cells) (slots) (Q) (pc) (L) (st) := by
  intro H locs ls hS hW hl
  have hK := B.2.2.2.2.2.2.1
  have hKn := hK.1 ci _ hc
  refine W.newcK B.1 B.2.1 B.2.2.2.1 (B.2.2.2.2.1 _ q1) (B.2.2.2.2.1 _ q2) (B.2.2.2.2.1 _ q3) rfl hdg hcells hslots hKn.2.1 rfl fun H1 kC hkC e1 z1 o1 => ?_
  refine kk H.size (B.2.2.2.2.2.2.2.2.2.2.2 _ hS.1) H1 locs ls ⟨Nat.le_trans hS.1 (by omega), fun x h1 h2 => (o1 x (Nat.lt_of_lt_of_le h1 hS.1)).trans (hS.2.1 x h1 h2), hS.2.2⟩ ⟨H, hW, rfl, z1, o1, ⟨_, hc, ?_⟩⟩ hl
  exact (u_born ty B.2.2.2.2.1 hin hKn hkC e1 hty).to hfs
theorem j_anew (B : pgB p m c s args meth own cc nL D tys A) {C : String} {index N : Nat} {n : Int32} {cA : ClassId} (q1 : Cond.classLink own index C ∈ pgWd) (hAO : va_AO C s) (t0 : Nat) (ht : tys[t0]? = some (cA, .object C)) (hn : ¬ n < 0) (hN : n.toNatClampNeg = N) (hb4 : N * 4 ≤ 536870912) (hcells : cells + 1 ≤ R.cells) (hslots : slots + N ≤ R.slots) (hdg : decode cc pc = .ok (.anewarray index, 3)) (kk : ∀ q : Nat, A q → pgJ p l e R s m args below meth c nL A (pgFresh D Wd q (.inl (cA, N, .inr (.inr (.inr (.inr (fun _ => none))))))) (cells + 1) (slots + N) (Q) (pc + 3) (L) (.ref q :: st)) : pgJ p l e R s m args below meth c nL A (Wd) (cells) (slots) (Q) (pc) (L) (.int n :: st) := by
  intro H locs ls hS hW hl
  subst hN
  refine W.anew B.1 B.2.1 B.2.2.2.1 (B.2.2.2.2.1 _ q1) (va_AO.use hAO) rfl hdg rfl hn hb4 hcells hslots fun cA2 kA comp f1 f2 f3 f4 => ?_
  obtain ⟨kA3, comp3, g1, g2, g3, g4⟩ := (B.2.2.2.2.2.2.1.2 t0 _ ht).2
  have hcA : cA2 = cA := Option.some.inj (f1.symm.trans g4)
  subst hcA
  generalize hH1 : H.push ({ cls := cA2, slots := Array.replicate n.toNatClampNeg .null, vm := .none } : Cell) = H1
  have z1 : H1.size = H.size + 1 := by rw [← hH1, Array.size_push]
  have e1 : H1[H.size]? = some (arrV cA2 n.toNatClampNeg (fun _ => .null)) := by rw [← hH1, Array.getElem?_push_size, ← arrV_new]
  have o1 : ∀ q : Nat, q < H.size → H1[q]? = H[q]? := fun q hq => by rw [← hH1, Array.getElem?_push, if_neg (Nat.ne_of_lt hq)]
  refine kk H.size (B.2.2.2.2.2.2.2.2.2.2.2 _ hS.1) H1 locs ls ⟨Nat.le_trans hS.1 (by omega), fun x h1 h2 => (o1 x (Nat.lt_of_lt_of_le h1 hS.1)).trans (hS.2.1 x h1 h2), hS.2.2⟩ ⟨H, hW, rfl, z1, o1, ?_⟩ hl
  show H1[H.size]? = some (vp_cell _ _)
  rw [vp_cell_q]
  exact e1
theorem j_newa (B : pgB p m c s args meth own cc nL D tys A) {atype : ArrayType} {N : Nat} {n : Int32} {cA : ClassId} {ty : FieldType} {a0 : vp_A} (hty : newarray.typeOf atype = ty) (q1 : Cond.arrayClass ty ∈ pgWd) (t0 : Nat) (ht : tys[t0]? = some (cA, ty)) (hra : va_RA s cA ty → s.vm.findClass ("[" ++ ty.toString) = some cA) (ha : ∀ cA : ClassId, vp_cell cA a0 = arrV cA N (fun _ => defaultValue ty)) (hn : ¬ n < 0) (hN : n.toNatClampNeg = N) (hb4 : N * componentBytes ty ≤ 536870912) (hcells : cells + 1 ≤ R.cells) (hslots : slots + N ≤ R.slots) (hdg : decode cc pc = .ok (.newarray atype, 2)) (kk : ∀ q : Nat, A q → pgJ p l e R s m args below meth c nL A (pgFresh D Wd q (.inl (cA, a0))) (cells + 1) (slots + N) (Q) (pc + 2) (L) (.ref q :: st)) : pgJ p l e R s m args below meth c nL A (Wd) (cells) (slots) (Q) (pc) (L) (.int n :: st) := by
  intro H locs ls hS hW hl
  subst hN
  subst hty
  refine W.newa B.1 B.2.1 (B.2.2.2.2.1 _ q1) rfl hdg rfl hn hb4 hcells hslots fun cA2 kA comp f1 f2 f3 => ?_
  have hcA : cA2 = cA := Option.some.inj (f1.symm.trans (hra (B.2.2.2.2.2.2.1.2 t0 _ ht).2))
  subst hcA
  generalize hH1 : H.push ({ cls := cA2, slots := Array.replicate n.toNatClampNeg (defaultValue (newarray.typeOf atype)), vm := .none } : Cell) = H1
  have z1 : H1.size = H.size + 1 := by rw [← hH1, Array.size_push]
  have e1 : H1[H.size]? = some (arrV cA2 n.toNatClampNeg (fun _ => defaultValue (newarray.typeOf atype))) := by rw [← hH1, Array.getElem?_push_size, ← arrV_new]
  have o1 : ∀ q : Nat, q < H.size → H1[q]? = H[q]? := fun q hq => by rw [← hH1, Array.getElem?_push, if_neg (Nat.ne_of_lt hq)]
  refine kk H.size (B.2.2.2.2.2.2.2.2.2.2.2 _ hS.1) H1 locs ls ⟨Nat.le_trans hS.1 (by omega), fun x h1 h2 => (o1 x (Nat.lt_of_lt_of_le h1 hS.1)).trans (hS.2.1 x h1 h2), hS.2.2⟩ ⟨H, hW, rfl, z1, o1, ?_⟩ hl
  show H1[H.size]? = some (vp_cell _ _)
  rw [ha]
  exact e1
end PGN
/-- an array's picture matters at its places alone -/
theorem pg_refs {D : va_G} {q n : Nat} {cA : ClassId} {f g : Nat → Option Nat} {H : Heap} (h : va_at D vwCl (q, .inl (cA, n, .inr (.inr (.inr (.inr f))))) H) (e : ∀ j, j < n → f j = g j) : va_at D vwCl (q, .inl (cA, n, .inr (.inr (.inr (.inr g))))) H := by
  have h2 : H[q]? = some (vp_cell cA (n, .inr (.inr (.inr (.inr f))))) := h
  show H[q]? = some (vp_cell cA (n, .inr (.inr (.inr (.inr g)))))
  rw [h2, vp_cell_q, vp_cell_q]
  unfold arrV
  congr 3
  funext j
  show va_rf (f j.val) = va_rf (g j.val)
  rw [e j.val j.isLt]
theorem pg_ints {D : va_G} {q n : Nat} {cA : ClassId} {f g : Nat → Int32} {H : Heap} (h : va_at D vwCl (q, .inl (cA, n, .inl f)) H) (e : ∀ j, j < n → f j = g j) : va_at D vwCl (q, .inl (cA, n, .inl g)) H := by
  have h2 : H[q]? = some (vp_cell cA (n, .inl f)) := h
  show H[q]? = some (vp_cell cA (n, .inl g))
  rw [h2, vp_cell_i, vp_cell_i]
  unfold arrV
  congr 3
  funext j
  show Value.int (f j.val) = Value.int (g j.val)
  rw [e j.val j.isLt]
