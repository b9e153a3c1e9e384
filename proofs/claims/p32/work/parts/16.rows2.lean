/-- the row of the method's table that takes an exception of code k at pc, and where it goes on -/
def pgCatch (args : Array Value) (s : State) (c : Code) (own : String) (pc k h : Nat) : Prop :=
  ∃ (pre : List ExceptionTableEntry) (x : ExceptionTableEntry) (suf : List ExceptionTableEntry) (name : String), c.exceptionTable.toList = pre ++ x :: suf ∧ (∀ z ∈ pre, covers z pc = false ∨ (z.catchType ≠ 0 ∧ ∃ nm : String, (Cond.classLink own z.catchType nm).before args s = true ∧ va_Nc (pgExn k) nm s)) ∧ covers x pc = true ∧ x.catchType ≠ 0 ∧ (Cond.classLink own x.catchType name).before args s = true ∧ (Cond.castable (pgExn k) name).before args s = true ∧ x.handlerPc = h
theorem pg_c0 : (0 : Int32).toNatClampNeg = 0 := by decide
theorem pg_in01 : vp_in (0 : Int32) 1 := by
  have h : vp_in (nI 0) 1 := vp_in_nI (by omega) (by omega)
  rwa [nI_0] at h
section PGL
variable {p : Program} {l : Launch} {e : Env} {R : Room} {s : State} {m : MethodId} {args : Array Value} {below : List Frame} {meth : Method} {c : Code} {own : String} {cc : ByteArray} {nL : Nat} {D : va_G} {tys : List (ClassId × FieldType)} {A : Nat → Prop} {Wd : Heap → Prop} {cells slots : Nat} {Q : State → Prop} {pc : Nat} {L : List (Nat × Value)} {st stk : List Value}
theorem pgB_nc (B : pgB p m c s args meth own cc nL D tys A) (q : String × String) (hq : q ∈ pgNC) : va_Nc q.1 q.2 s := B.2.2.2.2.2.2.2.2.2.2.1.1 q hq
theorem pgB_nw (B : pgB p m c s args meth own cc nL D tys A) {w : Cond} (hw : w ∈ pgNw) (hon : w.onTables = true) : w.before args s = true := va_tabs hon rfl (B.2.2.2.2.2.2.2.2.2.1 w hw)
theorem j_wVi (B : pgB p m c s args meth own cc nL D tys A) {S : Type} {y : MethodName} {bytes : ByteArray} {maxL : Nat} {ret : Option FieldType} {rm : Room} {idx : Nat} (n : Nat) {b : Nat} (As : List Value) {WdC : Heap → Prop} {A1 : Nat → Prop} {post : Int32 → S → Prop} {WdC' : S → Heap → Prop} {pxC : Nat → Prop} {WdX : Heap → Prop} (Wd' : S → Heap → Prop) (WdX' : Heap → Prop) (hM : vx_Met l y (.code y bytes maxL ret :: pgWd) rm (pgPc D tys A1 WdC (.ref b :: As)) (va_Qi post (fun u t => WdC' u t.heap) A1) (pgX A1 pxC WdX) rm.cells rm.slots A1) {C : String} {T : u_T} {N ci : Nat} {fs : List Value} (hc : vwCl[ci]? = some (C, T, N)) (hat : ∀ H, Wd H → va_at D vwCl (b, .inr (ci, fs)) H) (q1 : Cond.methodLink own idx y ∈ pgWd) (q2 : Cond.instanceMethod y ∈ pgWd) (q3 : Cond.selects C y y ∈ pgWd) (q4 : Cond.initialized C ∈ pgWd) (q5 : Cond.code y bytes maxL ret ∈ pgWd) (hd : y.cls = C ∧ y.cls ≠ "java/lang/invoke/MethodHandle" ∧ y.cls ≠ "java/lang/invoke/VarHandle" ∧ (parseMethodDescriptor y.desc).map (fun d => d.parameters.length) = some n) (hn : As.length = n) (hR : rm.frames + 1 ≤ R.frames ∧ 8 + (maxL + 11) + rm.locals ≤ R.locals) (hcat : (st.map fun v => v.category).sum ≤ 8) (hdg : decode cc pc = .ok (.invokevirtual idx, 3)) (hstk : stk = As.reverse ++ .ref b :: st) (hcl : cells + rm.cells ≤ R.cells ∧ slots + rm.slots ≤ R.slots) (hA : ∀ q, A1 q → A q) (hN : ∀ (H : Heap), Wd H → ∀ q : Nat, H.size ≤ q → A q → A1 q) (cut : ∀ H, Wd H → WdC H) (back : ∀ (H H1 : Heap) (u : S), Wd H → WdC' u H1 → H.size ≤ H1.size → (∀ q : Nat, q < H.size → ¬ A1 q → H1[q]? = H[q]?) → Wd' u H1) (backX : ∀ (H H1 : Heap), Wd H → WdX H1 → H.size ≤ H1.size → (∀ q : Nat, q < H.size → ¬ A1 q → H1[q]? = H[q]?) → WdX' H1) (kx : ∀ k, pxC k → ∃ h, pgCatch args s c own pc k h ∧ ∀ q9 : Nat, pgJ p l e R s m args below meth c nL A (WdX') (cells + rm.cells) (slots + rm.slots) (Q) h (L) [.ref q9]) (kk : ∀ (r : Int32) (u : S), post r u → pgJ p l e R s m args below meth c nL A (Wd' u) (cells + rm.cells) (slots + rm.slots) (Q) (pc + 3) (L) (.int r :: st)) : pgJ p l e R s m args below meth c nL A (Wd) (cells) (slots) (Q) (pc) (L) (stk) := by
  subst hstk
  intro H locs ls hS hW hl
  exact vx_calli (vx_runV (As := As) (rest := st) ⟨B.1, B.2.1, B.2.2.1, B.2.2.2.1, B.2.2.2.2.1⟩ hM (cwV n B.2.2.2.2.1 (pgGV q1 q2 q3 q4 q5) rfl rfl rfl hd hR) ⟨pgBlind, va_recv B.2.2.2.2.2.2.1 (pg_one (hat H hW)) hc (q0 := 0) rfl, (fun U hU hWm => ⟨rfl, pg_narrowAt B.2.2.2.2.2.2 hS hU hWm hA (hN H hW), by rw [hU]; exact cut H hW⟩)⟩ rfl hn hl.1 rfl (lv_room hcat) hdg hcl) hS (fun q _ h => hA q h) hA (fun q _ h => hA q h) (fun E ce q9 k t H1 locs1 ht1 hvm hp hB hz hk hS1 hce hcv hcl9 => by
    obtain ⟨h, ⟨pre, x, suf, name, c1, c2, c3, c4, c5, c6, c7⟩, kj⟩ := kx k hp
    obtain ⟨hE, hWx⟩ := hB
    subst hE
    refine vx_catch B.2.2.2.1 pre x suf c1 c2 c3 c4 c5 c6 hce hcv hcl9 ?_
    rw [c7]
    exact kj q9 H1 locs1 ls hS1 (backX H H1 hW (by rw [← ht1]; exact hWx) hz hk) hl) (fun r u t H1 locs1 ht hvm hp hB hz hk hS1 => kk r u hp H1 locs1 ls hS1 (back H H1 u hW (by rw [← ht]; exact hB) hz hk) hl)
end PGL
section PVR
variable {p : Program} {l : Launch} {e : Env} {R : Room} {s : State} {m : MethodId} {args : Array Value} {below : List Frame} {meth : Method} {c : Code} {own : String} {cc : ByteArray} {nL : Nat} {D : va_G} {tys : List (ClassId × FieldType)} {A : Nat → Prop} {Wd : Heap → Prop} {cells slots : Nat} {Q : State → Prop} {pc : Nat} {L L' : List (Nat × Value)} {st stk : List Value}
theorem j_addv (B : pgB p m c s args meth own cc nL D tys A) {x y : Int32} (v : Int32) (hv : x + y = v) (hdg : decode cc pc = .ok (.iadd, 1)) (kk : pgJ p l e R s m args below meth c nL A (Wd) (cells) (slots) (Q) (pc + 1) (L) (.int v :: st)) : pgJ p l e R s m args below meth c nL A (Wd) (cells) (slots) (Q) (pc) (L) (.int y :: .int x :: st) := by subst hv; exact fun H locs ls hS hW hl => lv_iadd B.1 B.2.1 hdg (kk H locs ls hS hW hl)
theorem j_subv (B : pgB p m c s args meth own cc nL D tys A) {x y : Int32} (v : Int32) (hv : x - y = v) (hdg : decode cc pc = .ok (.isub, 1)) (kk : pgJ p l e R s m args below meth c nL A (Wd) (cells) (slots) (Q) (pc + 1) (L) (.int v :: st)) : pgJ p l e R s m args below meth c nL A (Wd) (cells) (slots) (Q) (pc) (L) (.int y :: .int x :: st) := by subst hv; exact fun H locs ls hS hW hl => lv_isub B.1 B.2.1 hdg (kk H locs ls hS hW hl)
theorem j_mulv (B : pgB p m c s args meth own cc nL D tys A) {x y : Int32} (v : Int32) (hv : x * y = v) (hdg : decode cc pc = .ok (.imul, 1)) (kk : pgJ p l e R s m args below meth c nL A (Wd) (cells) (slots) (Q) (pc + 1) (L) (.int v :: st)) : pgJ p l e R s m args below meth c nL A (Wd) (cells) (slots) (Q) (pc) (L) (.int y :: .int x :: st) := by subst hv; exact fun H locs ls hS hW hl => lv_imul B.1 B.2.1 hdg (kk H locs ls hS hW hl)
theorem j_andv (B : pgB p m c s args meth own cc nL D tys A) {x y : Int32} (v : Int32) (hv : x &&& y = v) (hdg : decode cc pc = .ok (.iand, 1)) (kk : pgJ p l e R s m args below meth c nL A (Wd) (cells) (slots) (Q) (pc + 1) (L) (.int v :: st)) : pgJ p l e R s m args below meth c nL A (Wd) (cells) (slots) (Q) (pc) (L) (.int y :: .int x :: st) := by subst hv; exact fun H locs ls hS hW hl => lv_iand B.1 B.2.1 hdg (kk H locs ls hS hW hl)
theorem j_orv (B : pgB p m c s args meth own cc nL D tys A) {x y : Int32} (v : Int32) (hv : x ||| y = v) (hdg : decode cc pc = .ok (.ior, 1)) (kk : pgJ p l e R s m args below meth c nL A (Wd) (cells) (slots) (Q) (pc + 1) (L) (.int v :: st)) : pgJ p l e R s m args below meth c nL A (Wd) (cells) (slots) (Q) (pc) (L) (.int y :: .int x :: st) := by subst hv; exact fun H locs ls hS hW hl => lv_ior B.1 B.2.1 hdg (kk H locs ls hS hW hl)
theorem j_remv (B : pgB p m c s args meth own cc nL D tys A) {x y : Int32} (v : Int32) (hv : x - x / y * y = v) (hne : ¬ y = 0) (hdg : decode cc pc = .ok (.irem, 1)) (kk : pgJ p l e R s m args below meth c nL A (Wd) (cells) (slots) (Q) (pc + 1) (L) (.int v :: st)) : pgJ p l e R s m args below meth c nL A (Wd) (cells) (slots) (Q) (pc) (L) (.int y :: .int x :: st) := by subst hv; exact fun H locs ls hS hW hl => lv_irem B.1 B.2.1 hdg hne (kk H locs ls hS hW hl)
theorem j_divv (B : pgB p m c s args meth own cc nL D tys A) {x y : Int32} (v : Int32) (hv : x / y = v) (hne : ¬ y = 0) (hdg : decode cc pc = .ok (.idiv, 1)) (kk : pgJ p l e R s m args below meth c nL A (Wd) (cells) (slots) (Q) (pc + 1) (L) (.int v :: st)) : pgJ p l e R s m args below meth c nL A (Wd) (cells) (slots) (Q) (pc) (L) (.int y :: .int x :: st) := by subst hv; exact fun H locs ls hS hW hl => lv_idiv B.1 B.2.1 hdg hne (kk H locs ls hS hW hl)
theorem j_shlv (B : pgB p m c s args meth own cc nL D tys A) {x y : Int32} (v : Int32) (hv : x <<< (y &&& 31) = v) (hdg : decode cc pc = .ok (.ishl, 1)) (kk : pgJ p l e R s m args below meth c nL A (Wd) (cells) (slots) (Q) (pc + 1) (L) (.int v :: st)) : pgJ p l e R s m args below meth c nL A (Wd) (cells) (slots) (Q) (pc) (L) (.int y :: .int x :: st) := by subst hv; exact fun H locs ls hS hW hl => lv_ishl B.1 B.2.1 hdg (kk H locs ls hS hW hl)
theorem j_shrv (B : pgB p m c s args meth own cc nL D tys A) {x y : Int32} (v : Int32) (hv : x >>> (y &&& 31) = v) (hdg : decode cc pc = .ok (.ishr, 1)) (kk : pgJ p l e R s m args below meth c nL A (Wd) (cells) (slots) (Q) (pc + 1) (L) (.int v :: st)) : pgJ p l e R s m args below meth c nL A (Wd) (cells) (slots) (Q) (pc) (L) (.int y :: .int x :: st) := by subst hv; exact fun H locs ls hS hW hl => lv_ishr B.1 B.2.1 hdg (kk H locs ls hS hW hl)
theorem j_lshl (B : pgB p m c s args meth own cc nL D tys A) {x : Int64} {y : Int32} (hdg : decode cc pc = .ok (.lshl, 1)) (kk : pgJ p l e R s m args below meth c nL A (Wd) (cells) (slots) (Q) (pc + 1) (L) (.long (x <<< (y.toInt64 &&& 63)) :: st)) : pgJ p l e R s m args below meth c nL A (Wd) (cells) (slots) (Q) (pc) (L) (.int y :: .long x :: st) := fun H locs ls hS hW hl => lv_lshl B.1 B.2.1 hdg rfl (kk H locs ls hS hW hl)
theorem j_lshr (B : pgB p m c s args meth own cc nL D tys A) {x : Int64} {y : Int32} (hdg : decode cc pc = .ok (.lshr, 1)) (kk : pgJ p l e R s m args below meth c nL A (Wd) (cells) (slots) (Q) (pc + 1) (L) (.long (x >>> (y.toInt64 &&& 63)) :: st)) : pgJ p l e R s m args below meth c nL A (Wd) (cells) (slots) (Q) (pc) (L) (.int y :: .long x :: st) := fun H locs ls hS hW hl => lv_lshr B.1 B.2.1 hdg rfl (kk H locs ls hS hW hl)
theorem j_land (B : pgB p m c s args meth own cc nL D tys A) {x y : Int64} (hdg : decode cc pc = .ok (.land, 1)) (kk : pgJ p l e R s m args below meth c nL A (Wd) (cells) (slots) (Q) (pc + 1) (L) (.long (x &&& y) :: st)) : pgJ p l e R s m args below meth c nL A (Wd) (cells) (slots) (Q) (pc) (L) (.long y :: .long x :: st) := fun H locs ls hS hW hl => lv_land B.1 B.2.1 hdg (kk H locs ls hS hW hl)
theorem j_lor (B : pgB p m c s args meth own cc nL D tys A) {x y : Int64} (hdg : decode cc pc = .ok (.lor, 1)) (kk : pgJ p l e R s m args below meth c nL A (Wd) (cells) (slots) (Q) (pc + 1) (L) (.long (x ||| y) :: st)) : pgJ p l e R s m args below meth c nL A (Wd) (cells) (slots) (Q) (pc) (L) (.long y :: .long x :: st) := fun H locs ls hS hW hl => lv_lor B.1 B.2.1 hdg (kk H locs ls hS hW hl)
theorem j_lxor (B : pgB p m c s args meth own cc nL D tys A) {x y : Int64} (hdg : decode cc pc = .ok (.lxor, 1)) (kk : pgJ p l e R s m args below meth c nL A (Wd) (cells) (slots) (Q) (pc + 1) (L) (.long (x ^^^ y) :: st)) : pgJ p l e R s m args below meth c nL A (Wd) (cells) (slots) (Q) (pc) (L) (.long y :: .long x :: st) := fun H locs ls hS hW hl => lv_lxor B.1 B.2.1 hdg (kk H locs ls hS hW hl)
theorem j_lload_n (B : pgB p m c s args meth own cc nL D tys A) {k : Fin 4} {i : Nat} {x : Int64} (hdg : decode cc pc = .ok (.lload_n k, 1)) (pl : Nat) (hL : L[pl]? = some (i, .long x)) (hi : (k : Nat) = i) (kk : pgJ p l e R s m args below meth c nL A (Wd) (cells) (slots) (Q) (pc + 1) (L) (.long x :: st)) : pgJ p l e R s m args below meth c nL A (Wd) (cells) (slots) (Q) (pc) (L) (st) := fun H locs ls hS hW hl => lv_lload_n B.1 B.2.1 hdg hi (lv_at hl pl hL) (kk H locs ls hS hW hl)
theorem j_lload (B : pgB p m c s args meth own cc nL D tys A) {i : Nat} {x : Int64} (hdg : decode cc pc = .ok (.lload i, 2)) (pl : Nat) (hL : L[pl]? = some (i, .long x)) (kk : pgJ p l e R s m args below meth c nL A (Wd) (cells) (slots) (Q) (pc + 2) (L) (.long x :: st)) : pgJ p l e R s m args below meth c nL A (Wd) (cells) (slots) (Q) (pc) (L) (st) := fun H locs ls hS hW hl => lv_lload B.1 B.2.1 hdg (lv_at hl pl hL) (kk H locs ls hS hW hl)
theorem j_lstore (B : pgB p m c s args meth own cc nL D tys A) {i : Nat} {x : Int64} (hdg : decode cc pc = .ok (.lstore i, 2)) (hn : i + 1 < nL) (hL : (i, Value.long x) :: L.filter (fun q => !(q.1 == i) && (!(q.1 == i + 1) && !(q.1 + 1 == i && q.2.category == 2))) = L') (kk : pgJ p l e R s m args below meth c nL A (Wd) (cells) (slots) (Q) (pc + 2) (L') (st)) : pgJ p l e R s m args below meth c nL A (Wd) (cells) (slots) (Q) (pc) (L) (Value.long x :: st) := fun H locs ls hS hW hl => lv_lstore B.1 B.2.1 hdg hl hn hL (fun ls2 hl2 => kk H locs ls2 hS hW hl2)
theorem j_dup2 (B : pgB p m c s args meth own cc nL D tys A) {va vb : Value} (hdg : decode cc pc = .ok (.dup2, 1)) (hva : va.category = 1) (hvb : vb.category = 1) (kk : pgJ p l e R s m args below meth c nL A (Wd) (cells) (slots) (Q) (pc + 1) (L) (va :: vb :: va :: vb :: st)) : pgJ p l e R s m args below meth c nL A (Wd) (cells) (slots) (Q) (pc) (L) (va :: vb :: st) := fun H locs ls hS hW hl => lv_dup2_11 B.1 B.2.1 hdg hva hvb (kk H locs ls hS hW hl)
theorem j_sipush (B : pgB p m c s args meth own cc nL D tys A) {n : Int} {v : Int32} (hdg : decode cc pc = .ok (.sipush n, 3)) (hv : (Int16.ofInt n).toInt32 = v) (kk : pgJ p l e R s m args below meth c nL A (Wd) (cells) (slots) (Q) (pc + 3) (L) (.int v :: st)) : pgJ p l e R s m args below meth c nL A (Wd) (cells) (slots) (Q) (pc) (L) (st) := fun H locs ls hS hW hl => lv_sipush B.1 B.2.1 hdg hv (kk H locs ls hS hW hl)
theorem j_ldc (B : pgB p m c s args meth own cc nL D tys A) {index : Nat} {v : Int32} (hq : Cond.constant own index v ∈ pgWd) (hdg : decode cc pc = .ok (.ldc index, 2)) (kk : pgJ p l e R s m args below meth c nL A (Wd) (cells) (slots) (Q) (pc + 2) (L) (.int v :: st)) : pgJ p l e R s m args below meth c nL A (Wd) (cells) (slots) (Q) (pc) (L) (st) := fun H locs ls hS hW hl => lv_ldc B.1 B.2.1 B.2.2.2.1 (B.2.2.2.2.1 _ hq) hdg (kk H locs ls hS hW hl)
theorem j_bool {P : Prop} {v : Int32} (h : v = 1 ∧ P ∨ v = 0 ∧ ¬ P) (k1 : P → pgJ p l e R s m args below meth c nL A (Wd) (cells) (slots) (Q) (pc) (L) (.int 1 :: st)) (k0 : ¬ P → pgJ p l e R s m args below meth c nL A (Wd) (cells) (slots) (Q) (pc) (L) (.int 0 :: st)) : pgJ p l e R s m args below meth c nL A (Wd) (cells) (slots) (Q) (pc) (L) (.int v :: st) := by
  rcases h with ⟨rfl, h⟩ | ⟨rfl, h⟩
  · exact k1 h
  · exact k0 h
theorem j_eqL {L1 : List (Nat × Value)} {st1 : List Value} {pc1 : Nat} (hp : pc1 = pc) (hL : L1 = L) (hs : st1 = st) (kk : pgJ p l e R s m args below meth c nL A (Wd) (cells) (slots) (Q) (pc) (L) (st)) : pgJ p l e R s m args below meth c nL A (Wd) (cells) (slots) (Q) (pc1) (L1) (st1) := by subst hp; subst hL; subst hs; exact kk
end PVR
/-! bits of a long -/
def pvB (m : Int64) (j : Nat) : Prop := m.toBitVec.getLsbD j = true
theorem pv_s64 : ∀ j, j < 64 → (((nI j).toInt64 &&& 63).toBitVec.smod 64).toNat = j := by decide +kernel
theorem pv_sh : ∀ k, k < 64 → ((1 : Int64) <<< ((nI k).toInt64 &&& 63)).toBitVec = BitVec.twoPow 64 k := by decide +kernel
theorem pv_z1 : ∀ k, k < 64 → ((1 : Int64) <<< ((nI k).toInt64 &&& 63)) ≠ 0 := by decide +kernel
theorem pv_bit1 {m : Int64} {j : Nat} (hj : j < 64) (h : pvB m j) : (m >>> ((nI j).toInt64 &&& 63)) &&& 1 = 1 := by
  apply Int64.toBitVec_inj.mp
  rw [Int64.toBitVec_and, Int64.toBitVec_shiftRight]
  show (m.toBitVec.sshiftRight (((nI j).toInt64 &&& 63).toBitVec.smod 64).toNat &&& 1#64) = 1#64
  rw [pv_s64 j hj]
  apply BitVec.eq_of_getLsbD_eq
  intro i hi
  unfold pvB at h
  rw [BitVec.getLsbD_and, BitVec.getLsbD_sshiftRight]
  cases i with
  | zero => simp [h, hj]
  | succ i => simp
theorem pv_bit0 {m : Int64} {j : Nat} (hj : j < 64) (h : ¬ pvB m j) : (m >>> ((nI j).toInt64 &&& 63)) &&& 1 = 0 := by
  apply Int64.toBitVec_inj.mp
  rw [Int64.toBitVec_and, Int64.toBitVec_shiftRight]
  show (m.toBitVec.sshiftRight (((nI j).toInt64 &&& 63).toBitVec.smod 64).toNat &&& 1#64) = 0#64
  rw [pv_s64 j hj]
  apply BitVec.eq_of_getLsbD_eq
  intro i hi
  unfold pvB at h
  rw [BitVec.getLsbD_and, BitVec.getLsbD_sshiftRight]
  cases i with
  | zero =>
    have h2 : m.toBitVec.getLsbD j = false := Bool.eq_false_iff.mpr h
    simp [hj]
    exact (BitVec.getLsbD_eq_getElem hj).symm.trans h2
  | succ i => simp
/-- (m >> j & 1L) against 1L -/
theorem pv_c1 {m : Int64} {j : Nat} (hj : j < 64) : lg_cmp ((m >>> ((nI j).toInt64 &&& 63)) &&& 1) 1 = 0 ↔ pvB m j := by
  by_cases h : pvB m j
  · rw [pv_bit1 hj h]; exact ⟨fun _ => h, fun _ => by decide⟩
  · rw [pv_bit0 hj h]; exact ⟨fun z => absurd z (by decide), fun z => absurd z h⟩
theorem pv_c0 {m : Int64} {j : Nat} (hj : j < 64) : lg_cmp ((m >>> ((nI j).toInt64 &&& 63)) &&& 1) 0 = 0 ↔ ¬ pvB m j := by
  by_cases h : pvB m j
  · rw [pv_bit1 hj h]; exact ⟨fun z => absurd z (by decide), fun z => absurd h z⟩
  · rw [pv_bit0 hj h]; exact ⟨fun _ => h, fun _ => by decide⟩
theorem pvB_0 {j : Nat} : ¬ pvB 0 j := by
  unfold pvB
  rw [show (0 : Int64).toBitVec = 0#64 from rfl, BitVec.getLsbD_zero]
  decide
theorem pvB_1 {j k : Nat} (hk : k < 64) : pvB ((1 : Int64) <<< ((nI k).toInt64 &&& 63)) j ↔ j = k := by
  unfold pvB
  rw [pv_sh k hk, BitVec.getLsbD_twoPow]
  simp only [Bool.and_eq_true, decide_eq_true_eq]
  exact ⟨fun h => h.2.symm, fun h => ⟨hk, h.symm⟩⟩
theorem pvB_or {a b : Int64} {j : Nat} : pvB (a ||| b) j ↔ pvB a j ∨ pvB b j := by
  unfold pvB
  rw [Int64.toBitVec_or, BitVec.getLsbD_or, Bool.or_eq_true]
theorem pvB_xor {a b : Int64} {j : Nat} : pvB (a ^^^ b) j ↔ (pvB a j ∧ ¬ pvB b j) ∨ (¬ pvB a j ∧ pvB b j) := by
  unfold pvB
  rw [Int64.toBitVec_xor, BitVec.getLsbD_xor]
  cases a.toBitVec.getLsbD j <;> cases b.toBitVec.getLsbD j <;> decide
/-! numbers -/
theorem pv_div {a b : Nat} (ha : a < 2 ^ 31) (hb : b < 2 ^ 31) (h0 : 0 < b) : nI a / nI b = nI (a / b) := pk_div ha h0 hb
theorem pv_mul (a b : Nat) : nI a * nI b = nI (a * b) := (Int32.ofNat_mul a b).symm
theorem pv_rem {a b : Nat} (ha : a < 2 ^ 31) (h0 : 0 < b) (hb : b < 2 ^ 31) : nI a - nI a / nI b * nI b = nI (a % b) := pk_rem ha h0 hb
theorem pv_nm1 {k : Nat} (h : k < 2 ^ 31) : nI k ≠ -1 := fun z => nI_pos h (by rw [z]; decide)
theorem pv_m8 {k : Nat} (h : k < 2 ^ 31) : nI k ≠ -8 := fun z => nI_pos h (by rw [z]; decide)
theorem pv_0 {k : Nat} (h : k < 2 ^ 31) : nI k = 0 ↔ k = 0 := by
  rw [← nI_0]
  exact nI_eq h (by omega)
