/-- a method's start beside the script: L0 ints xs at the cell b -/
abbrev pvPc (D : va_G) (tys : List (ClassId × FieldType)) (A : Nat → Prop) (b L0 : Nat) (xs : Nat → Int32) (Wd : Heap → Prop) (av : List Value) : Array Value → State → Prop := va_Pc av (fun U => (pgE D tys A U ∧ va_X b L0 xs U U.heap ∧ b < U.heap.size) ∧ Wd U.heap)
theorem pvBlind {D : va_G} {tys : List (ClassId × FieldType)} {A : Nat → Prop} {b L0 : Nat} {xs : Nat → Int32} {Wd : Heap → Prop} {av : List Value} : FrameBlind (pvPc D tys A b L0 xs Wd av) := by
  intro a U g mk h
  obtain ⟨h0, ⟨hE, hX, hb⟩, hW⟩ := h
  obtain ⟨k0, k1, k2⟩ := pgBlind (D := D) (tys := tys) (A := A) (Wd := Wd) (av := av) a U g mk ⟨h0, hE, hW⟩
  have hvm : U.vm.Alike (U.calling g mk a).vm := Vm.Alike.refl U.vm
  exact ⟨k0, ⟨k1, va_X.moved (u := U) (U := U.calling g mk a) hvm hX, hb⟩, k2⟩
theorem pv_enterS {l : Launch} {y : MethodName} {bytes : ByteArray} {maxL : Nat} {ty : FieldType} {rm : Room} {D : va_G} {tys : List (ClassId × FieldType)} {A : Nat → Prop} {b L0 : Nat} {xs : Nat → Int32} {Wd : Heap → Prop} {av : List Value} {S : Type} {post : Int32 → S → Prop} {WdP : S → Heap → Prop} {mc ms : Nat} {own : String} (hy : plainName y.cls = true) (hown : y.cls = own) (hsl : (lg_sl av).length ≤ maxL)
    (body : ∀ (p : Program) (e : Env) (s : State) (m : MethodId) (args : Array Value) (below : List Frame) (meth : Method) (c : Code) (Q : State → Prop), pgB p m c s args meth own bytes maxL D tys A → va_X b L0 xs s s.heap → b < s.heap.size → (∀ (pc : Nat) (L : List (Nat × Value)) (v : Int32) (u : S) (cells slots : Nat), decode bytes pc = .ok (.ireturn, 1) → narrow ty (.int v) = .int v → cells ≤ mc → slots ≤ ms → post v u → pgJ p l e rm s m args below meth c maxL A (WdP u) cells slots Q pc L [.int v]) → pgJ p l e rm s m args below meth c maxL A Wd 0 0 Q 0 (lv_args 0 av) []) : Met l y (.code y bytes maxL (some ty) :: pgWd) rm (pvPc D tys A b L0 xs Wd av) (va_Qi post (fun u t => WdP u t.heap) A) mc ms A := by
  refine Met.ofW (cc := bytes) (maxL := maxL) (ret := some ty) hy rfl ?_
  intro p e s m args below meth c s₁ B hml hv
  obtain ⟨rfl, ⟨hE, hX, hb⟩, hW⟩ := hv
  have hts := atoms_spec (ws := .code y bytes maxL (some ty) :: pgWd) B.pre
  have hown2 : s.vm.findClass own = some m.cls := by rw [← hown]; exact findClass_of_methodNamed B.named
  rw [lg_entry_eq]
  have B2 : pgB p m c s av.toArray meth own bytes maxL D tys A := ⟨B.exec, B.bytes, hml, hown2, fun w h => hts w (List.mem_cons_of_mem _ h), B.notSynchronized, hE⟩
  exact body p e s m _ below meth c _ B2 hX hb (fun pc L v u cells slots hdg hn hc hs hpost => j_iret B2 B.returns hn hdg hc hs u hpost (fun H h => h)) s.heap [] _ va_S.rf hW (lv_entry av hsl)
section PVS
variable {p : Program} {l : Launch} {e : Env} {R : Room} {s : State} {m : MethodId} {args : Array Value} {below : List Frame} {meth : Method} {c : Code} {own : String} {cc : ByteArray} {nL : Nat} {D : va_G} {tys : List (ClassId × FieldType)} {A : Nat → Prop} {Wd : Heap → Prop} {cells slots : Nat} {Q : State → Prop} {pc : Nat} {L L' : List (Nat × Value)} {st stk : List Value}
theorem j_sld (B : pgB p m c s args meth own cc nL D tys A) {b L0 : Nat} {xs : Nat → Int32} (hX : va_X b L0 xs s s.heap) (hbl : b < s.heap.size) (hbA : ¬ A b) {i : Int32} (hin : vp_in i L0) (hdg : decode cc pc = .ok (.iaload, 1)) (kk : pgJ p l e R s m args below meth c nL A Wd cells slots Q (pc + 1) L (.int (xs i.toNatClampNeg) :: st)) : pgJ p l e R s m args below meth c nL A Wd cells slots Q pc L (.int i :: .ref b :: st) := fun H locs ls hS hW hl => va_sld B.1 B.2.1 hX hbl hbA hS hin hdg (kk H locs ls hS hW hl)
theorem j_slen (B : pgB p m c s args meth own cc nL D tys A) {b L0 : Nat} {xs : Nat → Int32} (hX : va_X b L0 xs s s.heap) (hbl : b < s.heap.size) (hbA : ¬ A b) (hdg : decode cc pc = .ok (.arraylength, 1)) (kk : pgJ p l e R s m args below meth c nL A Wd cells slots Q (pc + 1) L (.int (Int32.ofNat L0) :: st)) : pgJ p l e R s m args below meth c nL A Wd cells slots Q pc L (.ref b :: st) := fun H locs ls hS hW hl => va_slen B.1 B.2.1 hX hbl hbA hS hdg (kk H locs ls hS hW hl)
theorem j_lawS (B : pgB p m c s args meth own cc nL D tys A) {b L0 : Nat} {xs : Nat → Int32} (hX : va_X b L0 xs s s.heap) (hbl : b < s.heap.size) (hbA : ¬ A b) {S : Type} {y : MethodName} {bytes : ByteArray} {maxL : Nat} {ret : Option FieldType} {rm : Room} {idx : Nat} (n1 : Nat) (As : List Value) {post : Int32 → S → Prop} {WdP : S → Heap → Prop} (hM : Met l y (Cond.code y bytes maxL ret :: pgWd) rm (pvPc D tys A b L0 xs Wd As) (va_Qi post (fun u t => WdP u t.heap) A) rm.cells rm.slots A) (q1 : Cond.methodLink own idx y ∈ pgWd) (q2 : Cond.static y ∈ pgWd) (q4 : Cond.initialized y.cls ∈ pgWd) (q5 : Cond.code y bytes maxL ret ∈ pgWd) (hd : y.cls ≠ "java/lang/invoke/MethodHandle" ∧ y.cls ≠ "java/lang/invoke/VarHandle" ∧ (parseMethodDescriptor y.desc).map (fun d => d.parameters.length) = some n1) (hn : As.length = n1) (hR : rm.frames + 1 ≤ R.frames ∧ 8 + (maxL + 11) + rm.locals ≤ R.locals) (hcat : (st.map fun v => v.category).sum ≤ 8) (hdg : decode cc pc = .ok (.invokestatic idx, 3)) (hstk : stk = As.reverse ++ st) (k9 n9 : Nat) (hk : cells + rm.cells ≤ k9 ∧ slots + rm.slots ≤ n9) (hcl : k9 ≤ R.cells ∧ n9 ≤ R.slots) (kk : ∀ (r : Int32) (u : S), post r u → pgJ p l e R s m args below meth c nL A (WdP u) (k9) (n9) (Q) (pc + 3) (L) (.int r :: st)) : pgJ p l e R s m args below meth c nL A (Wd) (cells) (slots) (Q) (pc) (L) (stk) := by
  subst hstk
  intro H locs ls hS hW hl
  have hHb : H[b]? = s.heap[b]? := hS.2.1 b hbl hbA
  exact va_calli (va_runS (As := As) (rest := st) ⟨B.1, B.2.1, B.2.2.1, B.2.2.2.1, B.2.2.2.2.1⟩ hM (va_cwS n1 B.2.2.2.2.1 (pgGS q1 q2 q4 q5) rfl rfl rfl hd hR) ⟨pvBlind, (fun U hU hWm => ⟨rfl, ⟨pg_narrowAt B.2.2.2.2.2.2 hS hU hWm (fun _ h => h) (fun _ _ h => h), by rw [hU]; exact va_X.moved hWm.alike (hX.kept hHb), by rw [hU]; exact Nat.lt_of_lt_of_le hbl hS.1⟩, by rw [hU]; exact hW⟩)⟩ rfl hn hl.1 rfl (lv_room hcat) hdg ⟨Nat.le_trans hk.1 hcl.1, Nat.le_trans hk.2 hcl.2⟩) hS (fun q _ h => h) (fun q h => h) (fun r u t H1 locs1 ht hvm hp hB hz hk9 hS1 => j_widen hk.1 hk.2 (kk r u hp) H1 locs1 ls hS1 (by rw [← ht]; exact hB) hl)
end PVS
abbrev rm_draw : Room := { frames := 0, cells := 0, slots := 0, locals := 0 }
set_option maxHeartbeats 4000000 in
set_option maxRecDepth 100000 in
/-- draw -/
theorem c_L_draw (l : Launch) (D : va_G) (tys : List (ClassId × FieldType)) (A : Nat → Prop) (b L0 : Nat) (xs : Nat → Int32) (hbA : ¬ A b) (hL : L0 ≤ 260) (Wd : Heap → Prop) (k M : Nat) (hk : k < 2 ^ 30) (hM0 : 0 < M) (hM : M ≤ 2 ^ 30) : Met l yL_draw (.code yL_draw cL_draw 4 (some .int) :: pgWd) rm_draw (pvPc D tys A b L0 xs Wd [.ref b, .int (nI k), .int (nI M)]) (va_Qi (fun (r : Int32) (a : Nat) => r = nI a ∧ a < M) (fun _ t9 => Wd t9.heap) A) rm_draw.cells rm_draw.slots A := by
  refine pv_enterS (own := RL) (by decide) rfl (Nat.le_of_ble_eq_true rfl) (fun p e s m args below meth cc9 Q B hX hbl hret => ?_)
  have kj : ∀ v : Int32, pgJ p l e rm_draw s m args below meth cc9 4 A Wd 0 0 Q 23 [(0, .ref b), (1, .int (nI k)), (2, .int (nI M))] [.int v] := by
    intro v
    refine j_istore_n B (L' := [(3, .int v), (0, .ref b), (1, .int (nI k)), (2, .int (nI M))]) dL_draw_23 rfl (by decide) rfl ?_
    refine j_iload_n B dL_draw_24 0 rfl rfl ?_
    refine j_ldc B (v := 2147483647) q_75 dL_draw_25 ?_
    obtain ⟨a, ha, ea⟩ := pk_andE v (m := 2147483647) 31 (by decide)
    refine j_andv B (nI a) ea dL_draw_27 ?_
    refine j_iload_n B dL_draw_28 3 rfl rfl ?_
    refine j_remv B (nI (a % M)) (pv_rem (by omega) hM0 (by omega)) (nI_ne0 hM0 (by omega)) dL_draw_29 ?_
    exact hret 30 _ (nI (a % M)) (a % M) 0 0 dL_draw_30 rfl (Nat.le_of_ble_eq_true rfl) (Nat.le_of_ble_eq_true rfl) ⟨rfl, Nat.mod_lt _ hM0⟩
  refine j_iload_n B dL_draw_0 1 rfl rfl ?_
  refine j_aload_n B dL_draw_1 0 rfl rfl ?_
  refine j_slen B hX hbl hbA dL_draw_2 ?_
  refine j_icmp_ge B 12 dL_draw_3 (by decide) (fun h1 => ?_) (fun h1 => ?_)
  · refine j_ldc B (v := 936240561) q_73 dL_draw_12 ?_
    refine j_iload_n B dL_draw_14 1 rfl rfl ?_
    refine j_sipush B (v := 199) dL_draw_15 (by decide) ?_
    refine j_iadd B dL_draw_18 ?_
    refine j_mulv B _ rfl dL_draw_19 ?_
    refine j_ldc B (v := 1102697463) q_74 dL_draw_20 ?_
    refine j_iadd B dL_draw_22 ?_
    exact kj _
  · have hkL : k < L0 := Nat.lt_of_not_le (fun z => h1 (nI_le z (by omega)))
    refine j_aload_n B dL_draw_6 0 rfl rfl ?_
    refine j_iload_n B dL_draw_7 1 rfl rfl ?_
    refine j_sld B hX hbl hbA (vp_in_nI hkL (by omega)) dL_draw_8 ?_
    refine j_goto B 23 dL_draw_9 (by decide) ?_
    exact kj _
