def pgStr : List (Nat × String) := [(191, "there is no such keeper"), (29, "kind or secrecy is out of range"), (40, "no more disks can be brought"), (186, "there is no such disk"), (57, "the disk is offered to its keeper"), (193, "the disk is missing, offered or in a crate"), (70, "the disk is missing or not offered"), (189, "there is no such crate"), (81, "the crate is sealed or with another keeper"), (91, "the disk is missing, in no crate or in a sealed one"), (99, "the crate is sealed or no more seals can be made"), (107, "the count is out of range"), (109, "the crate is open"), (114, "the crate is carried to its keeper"), (116, "the crate is open and has disks"), (122, "there is no such way"), (200, "the witness is the keeper of the disk"), (198, "the disk is missing, offered or in a sealed crate"), (133, "the disk is wiped or broken"), (147, "the disk is broken"), (149, "the witness wiped the disk"), (151, "the disk is not wiped"), (153, "the disk is missing"), (155, "the disk is not missing"), (172, "no disk would be on the certificate")]
abbrev pgEI : String := "java/lang/IndexOutOfBoundsException"
abbrev pgEA : String := "java/lang/IllegalArgumentException"
abbrev pgES : String := "java/lang/IllegalStateException"
abbrev pgEN : String := "java/util/NoSuchElementException"
abbrev pgNm : List String := ["java/lang/RuntimeException", "java/lang/Exception"]
def pgInitS (X : String) : MethodName := ⟨X, "<init>", "(Ljava/lang/String;)V"⟩
/-- the words of a throw that the tables alone decide but that aren't kept by themselves -/
def pgNw : List Cond := [.castable pgEI pgEI, .castable pgEA pgEA, .castable pgES pgES, .castable pgEN pgEN, .declares (pgInitS "java/lang/RuntimeException"), .declares (pgInitS "java/lang/Exception"), .declares (pgInitS "java/lang/Throwable")]
def pgNC : List (String × String) := [(pgEA, pgES), (pgEN, pgES), (pgEN, pgEA)]
/-- which exception a code names -/
def pgExn (k : Nat) : String := if k = 1 then pgEI else if k = 2 then pgEA else if k = 3 then pgES else pgEN
/-- what every method of ours needs of the state around it -/
def pgE (D : va_G) (tys : List (ClassId × FieldType)) (A : Nat → Prop) (U : State) : Prop :=
  va_K D vwCl tys U ∧ (vx_Zq Bundle.tN "UNASSIGNED_STACK" Bundle.steD A U U.heap ∧ vx_Zq Bundle.tN "SUPPRESSED_SENTINEL" Bundle.listD A U U.heap) ∧ (∀ q ∈ pgStr, ∃ sa : Nat, vk_R RX2 q.1 q.2 sa U) ∧ (∀ w ∈ pgNw, va_Nw w U) ∧ ((∀ q ∈ pgNC, va_Nc q.1 q.2 U) ∧ va_AO RX1 U ∧ va_AO RX0 U) ∧ (∀ q : Nat, U.heap.size ≤ q → A q)
theorem pgNw_moved {s U : State} (hW : s.WarmedH U.vm) (h : ∀ w ∈ pgNw, va_Nw w s) : ∀ w ∈ pgNw, va_Nw w U := by
  intro w hw
  have h1 := h w hw
  simp only [pgNw, List.mem_cons, List.not_mem_nil, or_false] at hw
  rcases hw with rfl | rfl | rfl | rfl | rfl | rfl | rfl
  · exact va_Nw.warmC hW h1
  · exact va_Nw.warmC hW h1
  · exact va_Nw.warmC hW h1
  · exact va_Nw.warmC hW h1
  · exact va_Nw.warmD hW h1
  · exact va_Nw.warmD hW h1
  · exact va_Nw.warmD hW h1
theorem pgE.at {D : va_G} {tys : List (ClassId × FieldType)} {A : Nat → Prop} {s U : State} {H : Heap} {locs : List Loc} (h : pgE D tys A s) (hS : va_S A s.heap H locs) (hU : U.heap = H) (hW : s.WarmedH U.vm) : pgE D tys A U := by
  obtain ⟨h1, ⟨h2, h3⟩, h4, h5, h6, h7⟩ := h
  refine ⟨va_K.moved hW.alike h1, ⟨?_, ?_⟩, fun q hq => ?_, pgNw_moved hW h5, ⟨fun q hq => va_Nc.moved hW.alike (h6.1 q hq), va_AO.moved hW.alike h6.2.1, va_AO.moved hW.alike h6.2.2⟩, fun q hq => h7 q (Nat.le_trans hS.1 (by rw [← hU]; exact hq))⟩
  · rw [hU]; exact vx_Zq.moved hW.alike (h2.kept hS.2.1)
  · rw [hU]; exact vx_Zq.moved hW.alike (h3.kept hS.2.1)
  · obtain ⟨sa, h⟩ := h4 q hq
    exact ⟨sa, vk_R.warm hW h⟩
theorem pgE.narrow {D : va_G} {tys : List (ClassId × FieldType)} {A B : Nat → Prop} {U : State} (h : pgE D tys A U) (hAB : ∀ q, B q → A q) (hN : ∀ q : Nat, U.heap.size ≤ q → B q) : pgE D tys B U := ⟨h.1, ⟨h.2.1.1.narrow hAB, h.2.1.2.narrow hAB⟩, h.2.2.1, h.2.2.2.1, h.2.2.2.2.1, hN⟩
theorem pgE.tys {D : va_G} {tys tys' : List (ClassId × FieldType)} {A : Nat → Prop} {U : State} (h : pgE D tys A U) (hK : va_K D vwCl tys' U) : pgE D tys' A U := ⟨hK, h.2⟩
/-- a method's start: its arguments, the state around it, its world -/
abbrev pgPc (D : va_G) (tys : List (ClassId × FieldType)) (A : Nat → Prop) (Wd : Heap → Prop) (av : List Value) : Array Value → State → Prop := va_Pc av (fun U => pgE D tys A U ∧ Wd U.heap)
theorem pgBlind {D : va_G} {tys : List (ClassId × FieldType)} {A : Nat → Prop} {Wd : Heap → Prop} {av : List Value} : FrameBlind (pgPc D tys A Wd av) := by
  intro a U g mk h
  obtain ⟨h0, ⟨h1, ⟨h2, h3⟩, h4, h5, h6, h7⟩, h8⟩ := h
  have hvm : U.vm.Alike (U.calling g mk a).vm := Vm.Alike.refl U.vm
  refine ⟨h0, ⟨va_K.moved (u := U) (U := U.calling g mk a) hvm h1, ⟨vx_Zq.moved (u := U) (U := U.calling g mk a) hvm h2, vx_Zq.moved (u := U) (U := U.calling g mk a) hvm h3⟩, fun q hq => ?_, fun w hw => ?_, ⟨fun q hq => va_Nc.moved (u := U) (U := U.calling g mk a) hvm (h6.1 q hq), va_AO.moved (u := U) (U := U.calling g mk a) hvm h6.2.1, va_AO.moved (u := U) (U := U.calling g mk a) hvm h6.2.2⟩, h7⟩, h8⟩
  · obtain ⟨sa, h⟩ := h4 q hq
    exact ⟨sa, vk_R.same (u := U) (U := U.calling g mk a) rfl h⟩
  · have hon : w.onTables = true := by
      simp only [pgNw, List.mem_cons, List.not_mem_nil, or_false] at hw
      rcases hw with rfl | rfl | rfl | rfl | rfl | rfl | rfl <;> rfl
    exact va_Nw.same (u := U) (U := U.calling g mk a) hon rfl (h5 w hw)
/-- where a method of ours throws: which code, and the world -/
abbrev pgX (A : Nat → Prop) (px : Nat → Prop) (Wd : Heap → Prop) : String → State → State → Prop := vx_X px (fun E k t => E = pgExn k ∧ Wd t.heap) A
/-- what is known all along a body -/
def pgB (p : Program) (m : MethodId) (c : Code) (s : State) (args : Array Value) (meth : Method) (own : String) (cc : ByteArray) (nL : Nat) (D : va_G) (tys : List (ClassId × FieldType)) (A : Nat → Prop) : Prop :=
  p.tables.exec = Jvm.exec ∧ c.code = cc ∧ c.maxLocals = nL ∧ s.vm.findClass own = some m.cls ∧ (∀ w ∈ pgWd, w.before args s = true) ∧ meth.locks = false ∧ pgE D tys A s
/-- from every heap with this world, these locals and this stack the machine, at pc, comes to Q -/
def pgJ (p : Program) (l : Launch) (e : Env) (R : Room) (s : State) (m : MethodId) (args : Array Value) (below : List Frame) (meth : Method) (c : Code) (nL : Nat) (A : Nat → Prop) (Wd : Heap → Prop) (cells slots : Nat) (Q : State → Prop) (pc : Nat) (L : List (Nat × Value)) (st : List Value) : Prop :=
  ∀ (H : Heap) (locs : List Loc) (ls : Array Slot), va_S A s.heap H locs → Wd H → lv_has ls nL L → W p l e R s m args below meth c H locs cells slots Q (F0 m pc ls st)
section PGJ
variable {p : Program} {l : Launch} {e : Env} {R : Room} {s : State} {m : MethodId} {args : Array Value} {below : List Frame} {meth : Method} {c : Code} {own : String} {cc : ByteArray} {nL : Nat} {D : va_G} {tys : List (ClassId × FieldType)} {A : Nat → Prop} {Wd Wd' : Heap → Prop} {cells slots : Nat} {Q : State → Prop} {pc : Nat} {L L' : List (Nat × Value)} {st stk : List Value}
theorem j_iload_n (B : pgB p m c s args meth own cc nL D tys A) {k : Fin 4} {i : Nat} {x : Int32} (hdg : decode cc pc = .ok (.iload_n k, 1)) (pl : Nat) (hL : L[pl]? = some (i, .int x)) (hi : (k : Nat) = i) (kk : pgJ p l e R s m args below meth c nL A (Wd) (cells) (slots) (Q) (pc + 1) (L) (.int x :: st)) : pgJ p l e R s m args below meth c nL A (Wd) (cells) (slots) (Q) (pc) (L) (st) := fun H locs ls hS hW hl => lv_iload_n B.1 B.2.1 hdg hi (lv_at hl pl hL) (kk H locs ls hS hW hl)
theorem j_iload (B : pgB p m c s args meth own cc nL D tys A) {i : Nat} {x : Int32} (hdg : decode cc pc = .ok (.iload i, 2)) (pl : Nat) (hL : L[pl]? = some (i, .int x)) (kk : pgJ p l e R s m args below meth c nL A (Wd) (cells) (slots) (Q) (pc + 2) (L) (.int x :: st)) : pgJ p l e R s m args below meth c nL A (Wd) (cells) (slots) (Q) (pc) (L) (st) := fun H locs ls hS hW hl => lv_iload B.1 B.2.1 hdg (lv_at hl pl hL) (kk H locs ls hS hW hl)
theorem j_aload_n (B : pgB p m c s args meth own cc nL D tys A) {k : Fin 4} {i : Nat} {x : Nat} (hdg : decode cc pc = .ok (.aload_n k, 1)) (pl : Nat) (hL : L[pl]? = some (i, .ref x)) (hi : (k : Nat) = i) (kk : pgJ p l e R s m args below meth c nL A (Wd) (cells) (slots) (Q) (pc + 1) (L) (.ref x :: st)) : pgJ p l e R s m args below meth c nL A (Wd) (cells) (slots) (Q) (pc) (L) (st) := fun H locs ls hS hW hl => lv_aload_n B.1 B.2.1 hdg hi (lv_at hl pl hL) (kk H locs ls hS hW hl)
theorem j_aload (B : pgB p m c s args meth own cc nL D tys A) {i : Nat} {x : Nat} (hdg : decode cc pc = .ok (.aload i, 2)) (pl : Nat) (hL : L[pl]? = some (i, .ref x)) (kk : pgJ p l e R s m args below meth c nL A (Wd) (cells) (slots) (Q) (pc + 2) (L) (.ref x :: st)) : pgJ p l e R s m args below meth c nL A (Wd) (cells) (slots) (Q) (pc) (L) (st) := fun H locs ls hS hW hl => lv_aload B.1 B.2.1 hdg (lv_at hl pl hL) (kk H locs ls hS hW hl)
theorem j_aload_nN (B : pgB p m c s args meth own cc nL D tys A) {k : Fin 4} {i : Nat} (hdg : decode cc pc = .ok (.aload_n k, 1)) (pl : Nat) (hL : L[pl]? = some (i, .null)) (hi : (k : Nat) = i) (kk : pgJ p l e R s m args below meth c nL A (Wd) (cells) (slots) (Q) (pc + 1) (L) (.null :: st)) : pgJ p l e R s m args below meth c nL A (Wd) (cells) (slots) (Q) (pc) (L) (st) := fun H locs ls hS hW hl => lv_aload_nN B.1 B.2.1 hdg hi (lv_at hl pl hL) (kk H locs ls hS hW hl)
theorem j_aloadN (B : pgB p m c s args meth own cc nL D tys A) {i : Nat} (hdg : decode cc pc = .ok (.aload i, 2)) (pl : Nat) (hL : L[pl]? = some (i, .null)) (kk : pgJ p l e R s m args below meth c nL A (Wd) (cells) (slots) (Q) (pc + 2) (L) (.null :: st)) : pgJ p l e R s m args below meth c nL A (Wd) (cells) (slots) (Q) (pc) (L) (st) := fun H locs ls hS hW hl => lv_aloadN B.1 B.2.1 hdg (lv_at hl pl hL) (kk H locs ls hS hW hl)
theorem j_iconst (B : pgB p m c s args meth own cc nL D tys A) {n : Int} {v : Int32} (hdg : decode cc pc = .ok (.iconst n, 1)) (hv : Int32.ofInt n = v) (kk : pgJ p l e R s m args below meth c nL A (Wd) (cells) (slots) (Q) (pc + 1) (L) (.int v :: st)) : pgJ p l e R s m args below meth c nL A (Wd) (cells) (slots) (Q) (pc) (L) (st) := fun H locs ls hS hW hl => lv_iconst B.1 B.2.1 hdg hv (kk H locs ls hS hW hl)
theorem j_bipush (B : pgB p m c s args meth own cc nL D tys A) {n : Int} {v : Int32} (hdg : decode cc pc = .ok (.bipush n, 2)) (hv : (Int8.ofInt n).toInt32 = v) (kk : pgJ p l e R s m args below meth c nL A (Wd) (cells) (slots) (Q) (pc + 2) (L) (.int v :: st)) : pgJ p l e R s m args below meth c nL A (Wd) (cells) (slots) (Q) (pc) (L) (st) := fun H locs ls hS hW hl => lv_bipush B.1 B.2.1 hdg hv (kk H locs ls hS hW hl)
theorem j_lconst (B : pgB p m c s args meth own cc nL D tys A) {n : Fin 2} {v : Int64} (hdg : decode cc pc = .ok (.lconst n, 1)) (hv : Int64.ofNat (n : Nat) = v) (kk : pgJ p l e R s m args below meth c nL A (Wd) (cells) (slots) (Q) (pc + 1) (L) (.long v :: st)) : pgJ p l e R s m args below meth c nL A (Wd) (cells) (slots) (Q) (pc) (L) (st) := fun H locs ls hS hW hl => lv_lconst B.1 B.2.1 hdg hv (kk H locs ls hS hW hl)
theorem j_null (B : pgB p m c s args meth own cc nL D tys A) (hdg : decode cc pc = .ok (.aconst_null, 1)) (kk : pgJ p l e R s m args below meth c nL A (Wd) (cells) (slots) (Q) (pc + 1) (L) (.null :: st)) : pgJ p l e R s m args below meth c nL A (Wd) (cells) (slots) (Q) (pc) (L) (st) := fun H locs ls hS hW hl => lv_null B.1 B.2.1 hdg (kk H locs ls hS hW hl)
theorem j_goto (B : pgB p m c s args meth own cc nL D tys A) {off : Int} (tgt : Nat) (hdg : decode cc pc = .ok (.goto off, 3)) (ht : (pc : Int) + off = (tgt : Int)) (kk : pgJ p l e R s m args below meth c nL A (Wd) (cells) (slots) (Q) (tgt) (L) (st)) : pgJ p l e R s m args below meth c nL A (Wd) (cells) (slots) (Q) (pc) (L) (st) := fun H locs ls hS hW hl => lv_goto B.1 B.2.1 hdg ht (kk H locs ls hS hW hl)
theorem j_iadd (B : pgB p m c s args meth own cc nL D tys A) {x y : Int32} (hdg : decode cc pc = .ok (.iadd, 1)) (kk : pgJ p l e R s m args below meth c nL A (Wd) (cells) (slots) (Q) (pc + 1) (L) (.int (x + y) :: st)) : pgJ p l e R s m args below meth c nL A (Wd) (cells) (slots) (Q) (pc) (L) (.int y :: .int x :: st) := fun H locs ls hS hW hl => lv_iadd B.1 B.2.1 hdg (kk H locs ls hS hW hl)
theorem j_isub (B : pgB p m c s args meth own cc nL D tys A) {x y : Int32} (hdg : decode cc pc = .ok (.isub, 1)) (kk : pgJ p l e R s m args below meth c nL A (Wd) (cells) (slots) (Q) (pc + 1) (L) (.int (x - y) :: st)) : pgJ p l e R s m args below meth c nL A (Wd) (cells) (slots) (Q) (pc) (L) (.int y :: .int x :: st) := fun H locs ls hS hW hl => lv_isub B.1 B.2.1 hdg (kk H locs ls hS hW hl)
theorem j_iand (B : pgB p m c s args meth own cc nL D tys A) {x y : Int32} (hdg : decode cc pc = .ok (.iand, 1)) (kk : pgJ p l e R s m args below meth c nL A (Wd) (cells) (slots) (Q) (pc + 1) (L) (.int (x &&& y) :: st)) : pgJ p l e R s m args below meth c nL A (Wd) (cells) (slots) (Q) (pc) (L) (.int y :: .int x :: st) := fun H locs ls hS hW hl => lv_iand B.1 B.2.1 hdg (kk H locs ls hS hW hl)
theorem j_i2l (B : pgB p m c s args meth own cc nL D tys A) {x : Int32} (hdg : decode cc pc = .ok (.i2l, 1)) (kk : pgJ p l e R s m args below meth c nL A (Wd) (cells) (slots) (Q) (pc + 1) (L) (.long x.toInt64 :: st)) : pgJ p l e R s m args below meth c nL A (Wd) (cells) (slots) (Q) (pc) (L) (.int x :: st) := fun H locs ls hS hW hl => lv_i2l B.1 B.2.1 hdg rfl (kk H locs ls hS hW hl)
theorem j_lcmp (B : pgB p m c s args meth own cc nL D tys A) {x y : Int64} (hdg : decode cc pc = .ok (.lcmp, 1)) (kk : pgJ p l e R s m args below meth c nL A (Wd) (cells) (slots) (Q) (pc + 1) (L) (.int (lg_cmp x y) :: st)) : pgJ p l e R s m args below meth c nL A (Wd) (cells) (slots) (Q) (pc) (L) (.long y :: .long x :: st) := fun H locs ls hS hW hl => W.lcmp B.1 B.2.1 hdg (kk H locs ls hS hW hl)
theorem j_dup (B : pgB p m c s args meth own cc nL D tys A) {va : Value} (hdg : decode cc pc = .ok (.dup, 1)) (hva : va.category = 1) (kk : pgJ p l e R s m args below meth c nL A (Wd) (cells) (slots) (Q) (pc + 1) (L) (va :: va :: st)) : pgJ p l e R s m args below meth c nL A (Wd) (cells) (slots) (Q) (pc) (L) (va :: st) := fun H locs ls hS hW hl => lv_dup B.1 B.2.1 hdg hva (kk H locs ls hS hW hl)
theorem j_ifnonnull (B : pgB p m c s args meth own cc nL D tys A) {x : Nat} {off : Int} (tgt : Nat) (hdg : decode cc pc = .ok (.ifnonnull off, 3)) (ht : (pc : Int) + off = (tgt : Int)) (kk : pgJ p l e R s m args below meth c nL A (Wd) (cells) (slots) (Q) (tgt) (L) (st)) : pgJ p l e R s m args below meth c nL A (Wd) (cells) (slots) (Q) (pc) (L) (.ref x :: st) := fun H locs ls hS hW hl => lv_ifnonnull B.1 B.2.1 hdg ht (kk H locs ls hS hW hl)
theorem j_ifnonnullN (B : pgB p m c s args meth own cc nL D tys A) {off : Int} (hdg : decode cc pc = .ok (.ifnonnull off, 3)) (kk : pgJ p l e R s m args below meth c nL A (Wd) (cells) (slots) (Q) (pc + 3) (L) (st)) : pgJ p l e R s m args below meth c nL A (Wd) (cells) (slots) (Q) (pc) (L) (.null :: st) := fun H locs ls hS hW hl => lv_ifnonnullN B.1 B.2.1 hdg (kk H locs ls hS hW hl)
theorem j_ifnull (B : pgB p m c s args meth own cc nL D tys A) {x : Nat} {off : Int} (hdg : decode cc pc = .ok (.ifnull off, 3)) (kk : pgJ p l e R s m args below meth c nL A (Wd) (cells) (slots) (Q) (pc + 3) (L) (st)) : pgJ p l e R s m args below meth c nL A (Wd) (cells) (slots) (Q) (pc) (L) (.ref x :: st) := fun H locs ls hS hW hl => lv_ifnull B.1 B.2.1 hdg (kk H locs ls hS hW hl)
theorem j_ifnullN (B : pgB p m c s args meth own cc nL D tys A) {off : Int} (tgt : Nat) (hdg : decode cc pc = .ok (.ifnull off, 3)) (ht : (pc : Int) + off = (tgt : Int)) (kk : pgJ p l e R s m args below meth c nL A (Wd) (cells) (slots) (Q) (tgt) (L) (st)) : pgJ p l e R s m args below meth c nL A (Wd) (cells) (slots) (Q) (pc) (L) (.null :: st) := fun H locs ls hS hW hl => lv_ifnullN B.1 B.2.1 hdg ht (kk H locs ls hS hW hl)
theorem j_istore_n (B : pgB p m c s args meth own cc nL D tys A) {k : Fin 4} {i : Nat} {x : Int32} (hdg : decode cc pc = .ok (.istore_n k, 1)) (hi : (k : Nat) = i) (hn : i < nL) (hL : (i, Value.int x) :: L.filter (fun q => !(q.1 == i) && !(q.1 + 1 == i && q.2.category == 2)) = L') (kk : pgJ p l e R s m args below meth c nL A (Wd) (cells) (slots) (Q) (pc + 1) (L') (st)) : pgJ p l e R s m args below meth c nL A (Wd) (cells) (slots) (Q) (pc) (L) (Value.int x :: st) := fun H locs ls hS hW hl => lv_istore_n B.1 B.2.1 hdg hi hl hn hL (fun ls2 hl2 => kk H locs ls2 hS hW hl2)
theorem j_istore (B : pgB p m c s args meth own cc nL D tys A) {i : Nat} {x : Int32} (hdg : decode cc pc = .ok (.istore i, 2)) (hn : i < nL) (hL : (i, Value.int x) :: L.filter (fun q => !(q.1 == i) && !(q.1 + 1 == i && q.2.category == 2)) = L') (kk : pgJ p l e R s m args below meth c nL A (Wd) (cells) (slots) (Q) (pc + 2) (L') (st)) : pgJ p l e R s m args below meth c nL A (Wd) (cells) (slots) (Q) (pc) (L) (Value.int x :: st) := fun H locs ls hS hW hl => lv_istore B.1 B.2.1 hdg hl hn hL (fun ls2 hl2 => kk H locs ls2 hS hW hl2)
theorem j_astore_n (B : pgB p m c s args meth own cc nL D tys A) {k : Fin 4} {i : Nat} {x : Nat} (hdg : decode cc pc = .ok (.astore_n k, 1)) (hi : (k : Nat) = i) (hn : i < nL) (hL : (i, Value.ref x) :: L.filter (fun q => !(q.1 == i) && !(q.1 + 1 == i && q.2.category == 2)) = L') (kk : pgJ p l e R s m args below meth c nL A (Wd) (cells) (slots) (Q) (pc + 1) (L') (st)) : pgJ p l e R s m args below meth c nL A (Wd) (cells) (slots) (Q) (pc) (L) (Value.ref x :: st) := fun H locs ls hS hW hl => lv_astore_n B.1 B.2.1 hdg hi hl hn hL (fun ls2 hl2 => kk H locs ls2 hS hW hl2)
theorem j_astore (B : pgB p m c s args meth own cc nL D tys A) {i : Nat} {x : Nat} (hdg : decode cc pc = .ok (.astore i, 2)) (hn : i < nL) (hL : (i, Value.ref x) :: L.filter (fun q => !(q.1 == i) && !(q.1 + 1 == i && q.2.category == 2)) = L') (kk : pgJ p l e R s m args below meth c nL A (Wd) (cells) (slots) (Q) (pc + 2) (L') (st)) : pgJ p l e R s m args below meth c nL A (Wd) (cells) (slots) (Q) (pc) (L) (Value.ref x :: st) := fun H locs ls hS hW hl => lv_astore B.1 B.2.1 hdg hl hn hL (fun ls2 hl2 => kk H locs ls2 hS hW hl2)
theorem j_astore_nN (B : pgB p m c s args meth own cc nL D tys A) {k : Fin 4} {i : Nat} (hdg : decode cc pc = .ok (.astore_n k, 1)) (hi : (k : Nat) = i) (hn : i < nL) (hL : (i, Value.null) :: L.filter (fun q => !(q.1 == i) && !(q.1 + 1 == i && q.2.category == 2)) = L') (kk : pgJ p l e R s m args below meth c nL A (Wd) (cells) (slots) (Q) (pc + 1) (L') (st)) : pgJ p l e R s m args below meth c nL A (Wd) (cells) (slots) (Q) (pc) (L) (Value.null :: st) := fun H locs ls hS hW hl => lv_astore_nN B.1 B.2.1 hdg hi hl hn hL (fun ls2 hl2 => kk H locs ls2 hS hW hl2)
theorem j_astoreN (B : pgB p m c s args meth own cc nL D tys A) {i : Nat} (hdg : decode cc pc = .ok (.astore i, 2)) (hn : i < nL) (hL : (i, Value.null) :: L.filter (fun q => !(q.1 == i) && !(q.1 + 1 == i && q.2.category == 2)) = L') (kk : pgJ p l e R s m args below meth c nL A (Wd) (cells) (slots) (Q) (pc + 2) (L') (st)) : pgJ p l e R s m args below meth c nL A (Wd) (cells) (slots) (Q) (pc) (L) (Value.null :: st) := fun H locs ls hS hW hl => lv_astoreN B.1 B.2.1 hdg hl hn hL (fun ls2 hl2 => kk H locs ls2 hS hW hl2)
theorem j_iinc (B : pgB p m c s args meth own cc nL D tys A) {i : Nat} {n : Int} {x v : Int32} (hdg : decode cc pc = .ok (.iinc i n, 3)) (pl : Nat) (hk : L[pl]? = some (i, .int x)) (hv : x + Int32.ofInt n = v) (hn : i < nL) (hL : (i, Value.int v) :: L.filter (fun q => !(q.1 == i) && !(q.1 + 1 == i && q.2.category == 2)) = L') (kk : pgJ p l e R s m args below meth c nL A (Wd) (cells) (slots) (Q) (pc + 3) (L') (st)) : pgJ p l e R s m args below meth c nL A (Wd) (cells) (slots) (Q) (pc) (L) (st) := fun H locs ls hS hW hl => lv_iinc B.1 B.2.1 hdg hl hk hv hn hL (fun ls2 hl2 => kk H locs ls2 hS hW hl2)
theorem j_if_eq (B : pgB p m c s args meth own cc nL D tys A) {x : Int32} {off : Int} (tgt : Nat) (hdg : decode cc pc = .ok (.ifCond .eq off, 3)) (ht : (pc : Int) + off = (tgt : Int)) (kt : x = 0 → pgJ p l e R s m args below meth c nL A (Wd) (cells) (slots) (Q) (tgt) (L) (st)) (kf : ¬ x = 0 → pgJ p l e R s m args below meth c nL A (Wd) (cells) (slots) (Q) (pc + 3) (L) (st)) : pgJ p l e R s m args below meth c nL A (Wd) (cells) (slots) (Q) (pc) (L) (.int x :: st) := fun H locs ls hS hW hl => lv_if_eq B.1 B.2.1 hdg ht (fun h => kt h H locs ls hS hW hl) (fun h => kf h H locs ls hS hW hl)
theorem j_if_ne (B : pgB p m c s args meth own cc nL D tys A) {x : Int32} {off : Int} (tgt : Nat) (hdg : decode cc pc = .ok (.ifCond .ne off, 3)) (ht : (pc : Int) + off = (tgt : Int)) (kt : ¬ x = 0 → pgJ p l e R s m args below meth c nL A (Wd) (cells) (slots) (Q) (tgt) (L) (st)) (kf : x = 0 → pgJ p l e R s m args below meth c nL A (Wd) (cells) (slots) (Q) (pc + 3) (L) (st)) : pgJ p l e R s m args below meth c nL A (Wd) (cells) (slots) (Q) (pc) (L) (.int x :: st) := fun H locs ls hS hW hl => lv_if_ne B.1 B.2.1 hdg ht (fun h => kt h H locs ls hS hW hl) (fun h => kf h H locs ls hS hW hl)
theorem j_if_lt (B : pgB p m c s args meth own cc nL D tys A) {x : Int32} {off : Int} (tgt : Nat) (hdg : decode cc pc = .ok (.ifCond .lt off, 3)) (ht : (pc : Int) + off = (tgt : Int)) (kt : x < 0 → pgJ p l e R s m args below meth c nL A (Wd) (cells) (slots) (Q) (tgt) (L) (st)) (kf : ¬ x < 0 → pgJ p l e R s m args below meth c nL A (Wd) (cells) (slots) (Q) (pc + 3) (L) (st)) : pgJ p l e R s m args below meth c nL A (Wd) (cells) (slots) (Q) (pc) (L) (.int x :: st) := fun H locs ls hS hW hl => lv_if_lt B.1 B.2.1 hdg ht (fun h => kt h H locs ls hS hW hl) (fun h => kf h H locs ls hS hW hl)
theorem j_if_ge (B : pgB p m c s args meth own cc nL D tys A) {x : Int32} {off : Int} (tgt : Nat) (hdg : decode cc pc = .ok (.ifCond .ge off, 3)) (ht : (pc : Int) + off = (tgt : Int)) (kt : 0 ≤ x → pgJ p l e R s m args below meth c nL A (Wd) (cells) (slots) (Q) (tgt) (L) (st)) (kf : ¬ 0 ≤ x → pgJ p l e R s m args below meth c nL A (Wd) (cells) (slots) (Q) (pc + 3) (L) (st)) : pgJ p l e R s m args below meth c nL A (Wd) (cells) (slots) (Q) (pc) (L) (.int x :: st) := fun H locs ls hS hW hl => lv_if_ge B.1 B.2.1 hdg ht (fun h => kt h H locs ls hS hW hl) (fun h => kf h H locs ls hS hW hl)
theorem j_if_gt (B : pgB p m c s args meth own cc nL D tys A) {x : Int32} {off : Int} (tgt : Nat) (hdg : decode cc pc = .ok (.ifCond .gt off, 3)) (ht : (pc : Int) + off = (tgt : Int)) (kt : 0 < x → pgJ p l e R s m args below meth c nL A (Wd) (cells) (slots) (Q) (tgt) (L) (st)) (kf : ¬ 0 < x → pgJ p l e R s m args below meth c nL A (Wd) (cells) (slots) (Q) (pc + 3) (L) (st)) : pgJ p l e R s m args below meth c nL A (Wd) (cells) (slots) (Q) (pc) (L) (.int x :: st) := fun H locs ls hS hW hl => lv_if_gt B.1 B.2.1 hdg ht (fun h => kt h H locs ls hS hW hl) (fun h => kf h H locs ls hS hW hl)
theorem j_if_le (B : pgB p m c s args meth own cc nL D tys A) {x : Int32} {off : Int} (tgt : Nat) (hdg : decode cc pc = .ok (.ifCond .le off, 3)) (ht : (pc : Int) + off = (tgt : Int)) (kt : x ≤ 0 → pgJ p l e R s m args below meth c nL A (Wd) (cells) (slots) (Q) (tgt) (L) (st)) (kf : ¬ x ≤ 0 → pgJ p l e R s m args below meth c nL A (Wd) (cells) (slots) (Q) (pc + 3) (L) (st)) : pgJ p l e R s m args below meth c nL A (Wd) (cells) (slots) (Q) (pc) (L) (.int x :: st) := fun H locs ls hS hW hl => lv_if_le B.1 B.2.1 hdg ht (fun h => kt h H locs ls hS hW hl) (fun h => kf h H locs ls hS hW hl)
theorem j_icmp_eq (B : pgB p m c s args meth own cc nL D tys A) {x y : Int32} {off : Int} (tgt : Nat) (hdg : decode cc pc = .ok (.if_icmp .eq off, 3)) (ht : (pc : Int) + off = (tgt : Int)) (kt : x = y → pgJ p l e R s m args below meth c nL A (Wd) (cells) (slots) (Q) (tgt) (L) (st)) (kf : ¬ x = y → pgJ p l e R s m args below meth c nL A (Wd) (cells) (slots) (Q) (pc + 3) (L) (st)) : pgJ p l e R s m args below meth c nL A (Wd) (cells) (slots) (Q) (pc) (L) (.int y :: .int x :: st) := fun H locs ls hS hW hl => lv_icmp_eq B.1 B.2.1 hdg ht (fun h => kt h H locs ls hS hW hl) (fun h => kf h H locs ls hS hW hl)
theorem j_icmp_ne (B : pgB p m c s args meth own cc nL D tys A) {x y : Int32} {off : Int} (tgt : Nat) (hdg : decode cc pc = .ok (.if_icmp .ne off, 3)) (ht : (pc : Int) + off = (tgt : Int)) (kt : ¬ x = y → pgJ p l e R s m args below meth c nL A (Wd) (cells) (slots) (Q) (tgt) (L) (st)) (kf : x = y → pgJ p l e R s m args below meth c nL A (Wd) (cells) (slots) (Q) (pc + 3) (L) (st)) : pgJ p l e R s m args below meth c nL A (Wd) (cells) (slots) (Q) (pc) (L) (.int y :: .int x :: st) := fun H locs ls hS hW hl => lv_icmp_ne B.1 B.2.1 hdg ht (fun h => kt h H locs ls hS hW hl) (fun h => kf h H locs ls hS hW hl)
theorem j_icmp_lt (B : pgB p m c s args meth own cc nL D tys A) {x y : Int32} {off : Int} (tgt : Nat) (hdg : decode cc pc = .ok (.if_icmp .lt off, 3)) (ht : (pc : Int) + off = (tgt : Int)) (kt : x < y → pgJ p l e R s m args below meth c nL A (Wd) (cells) (slots) (Q) (tgt) (L) (st)) (kf : ¬ x < y → pgJ p l e R s m args below meth c nL A (Wd) (cells) (slots) (Q) (pc + 3) (L) (st)) : pgJ p l e R s m args below meth c nL A (Wd) (cells) (slots) (Q) (pc) (L) (.int y :: .int x :: st) := fun H locs ls hS hW hl => lv_icmp_lt B.1 B.2.1 hdg ht (fun h => kt h H locs ls hS hW hl) (fun h => kf h H locs ls hS hW hl)
theorem j_icmp_ge (B : pgB p m c s args meth own cc nL D tys A) {x y : Int32} {off : Int} (tgt : Nat) (hdg : decode cc pc = .ok (.if_icmp .ge off, 3)) (ht : (pc : Int) + off = (tgt : Int)) (kt : y ≤ x → pgJ p l e R s m args below meth c nL A (Wd) (cells) (slots) (Q) (tgt) (L) (st)) (kf : ¬ y ≤ x → pgJ p l e R s m args below meth c nL A (Wd) (cells) (slots) (Q) (pc + 3) (L) (st)) : pgJ p l e R s m args below meth c nL A (Wd) (cells) (slots) (Q) (pc) (L) (.int y :: .int x :: st) := fun H locs ls hS hW hl => lv_icmp_ge B.1 B.2.1 hdg ht (fun h => kt h H locs ls hS hW hl) (fun h => kf h H locs ls hS hW hl)
theorem j_icmp_gt (B : pgB p m c s args meth own cc nL D tys A) {x y : Int32} {off : Int} (tgt : Nat) (hdg : decode cc pc = .ok (.if_icmp .gt off, 3)) (ht : (pc : Int) + off = (tgt : Int)) (kt : y < x → pgJ p l e R s m args below meth c nL A (Wd) (cells) (slots) (Q) (tgt) (L) (st)) (kf : ¬ y < x → pgJ p l e R s m args below meth c nL A (Wd) (cells) (slots) (Q) (pc + 3) (L) (st)) : pgJ p l e R s m args below meth c nL A (Wd) (cells) (slots) (Q) (pc) (L) (.int y :: .int x :: st) := fun H locs ls hS hW hl => lv_icmp_gt B.1 B.2.1 hdg ht (fun h => kt h H locs ls hS hW hl) (fun h => kf h H locs ls hS hW hl)
theorem j_icmp_le (B : pgB p m c s args meth own cc nL D tys A) {x y : Int32} {off : Int} (tgt : Nat) (hdg : decode cc pc = .ok (.if_icmp .le off, 3)) (ht : (pc : Int) + off = (tgt : Int)) (kt : x ≤ y → pgJ p l e R s m args below meth c nL A (Wd) (cells) (slots) (Q) (tgt) (L) (st)) (kf : ¬ x ≤ y → pgJ p l e R s m args below meth c nL A (Wd) (cells) (slots) (Q) (pc + 3) (L) (st)) : pgJ p l e R s m args below meth c nL A (Wd) (cells) (slots) (Q) (pc) (L) (.int y :: .int x :: st) := fun H locs ls hS hW hl => lv_icmp_le B.1 B.2.1 hdg ht (fun h => kt h H locs ls hS hW hl) (fun h => kf h H locs ls hS hW hl)
theorem pg_one {ws : Nat × va_E} {H : Heap} (h : va_at D vwCl ws H) : va_P D vwCl [ws] H := fun k q hk => by
  have hz : k < 1 := (List.getElem?_eq_some_iff.mp hk).1
  rw [show k = 0 by omega] at hk
  cases hk
  exact h
theorem j_get (B : pgB p m c s args meth own cc nL D tys A) {C ref : String} {T : u_T} {N ci index : Nat} {a : Nat} {fs : List Value} {v : Value} (hin : ∀ w ∈ u_ws C T N, w ∈ pgWd) (hc : vwCl[ci]? = some (C, T, N)) (hat : ∀ H, Wd H → va_at D vwCl (a, .inr (ci, fs)) H) (k : Nat) (hk : k < N) (hq : Cond.fieldLink own index ref (T k).2.1 (T k).2.2.1 ∈ pgWd) (href : (T k).1 = ref) (hv : fs[k]? = some v) (hdg : decode cc pc = .ok (.getfield index, 3)) (kk : pgJ p l e R s m args below meth c nL A (Wd) (cells) (slots) (Q) (pc + 3) (L) (v :: st)) : pgJ p l e R s m args below meth c nL A (Wd) (cells) (slots) (Q) (pc) (L) (.ref a :: st) := fun H locs ls hS hW hl => va_get B.1 B.2.1 B.2.2.2.2.1 hin B.2.2.2.1 B.2.2.2.2.2.2.1 (pg_one (hat H hW)) 0 rfl hc k hk (B.2.2.2.2.1 _ hq) (fun x h => by rw [← href]; exact h) hv hdg (kk H locs ls hS hW hl)
theorem j_put (B : pgB p m c s args meth own cc nL D tys A) {C ref : String} {T : u_T} {N ci index : Nat} {a : Nat} {fs : List Value} {v : Value} {ty : FieldType} (hin : ∀ w ∈ u_ws C T N, w ∈ pgWd) (ty0 : Nat → FieldType) (hty : ∀ k, k < N → parseFieldDescriptor (T k).2.2.1 = some (ty0 k)) (hnm : ∀ a, a < N → ∀ b, b < N → a ≠ b → (T a).2.1 ≠ (T b).2.1) (hc : vwCl[ci]? = some (C, T, N)) (hat : ∀ H, Wd H → va_at D vwCl (a, .inr (ci, fs)) H) (k : Nat) (hk : k < N) (hq : Cond.fieldLink own index ref (T k).2.1 (T k).2.2.1 ∈ pgWd) (href : (T k).1 = ref) (hfin : (T k).2.2.2 = false) (hd : parseFieldDescriptor (T k).2.2.1 = some ty) (hn : narrow ty v = v) (hfit : fits ty v = true) (hl : k < fs.length) (hdg : decode cc pc = .ok (.putfield index, 3)) (hA : A a) (step : ∀ (H H1 : Heap), Wd H → va_at D vwCl (a, .inr (ci, fs.set k v)) H1 → H1.size = H.size → (∀ q : Nat, q ≠ a → H1[q]? = H[q]?) → Wd' H1) (kk : pgJ p l e R s m args below meth c nL A (Wd') (cells) (slots) (Q) (pc + 3) (L) (st)) : pgJ p l e R s m args below meth c nL A (Wd) (cells) (slots) (Q) (pc) (L) (v :: .ref a :: st) := by
  intro H locs ls hS hW hll
  obtain ⟨hx, hb, -, hown, hts, -, hE⟩ := B
  have hK := hE.1
  have hap := va_apart (own := own) hts hin ty0 hty hnm hK hc
  obtain ⟨r, h1, cell, q1, q2, q3, q4⟩ := hat H hW
  have hr : r = (C, T, N) := Option.some.inj (h1.symm.trans hc)
  subst hr
  obtain ⟨hSl, hfc, kC, hkC, hkind⟩ := hK.1 ci _ hc
  obtain ⟨cf, kf, fi, f, hi, hsl⟩ := hSl k hk
  have hlay := hts _ (hin _ (u_in_lay hk))
  unfold u_lay at hlay
  rw [if_neg (by rw [hfin]; decide)] at hlay
  have hst := (u_facts hfc hkC (u_lays hts hin hk) hi).1
  have h6 := u_store hfc hkC hkind hlay hi hd hn hfit
  refine W.putK hx hb (f := f) ⟨hown, hts _ hq, ⟨_, _, _, by rw [← href]; exact hi⟩, hst⟩ (by rw [q2]; exact h6) q1 q3 (by rw [hsl]; exact k2_hasslot (q4 k hk)) rfl rfl hdg fun H' e1 e2 e3 => ?_
  rw [hsl] at e1 ⊢
  exact kk H' _ ls (hS.put e2 e3 hA) (step H H' hW ⟨_, hc, t_OB.to (V := updV (vp_V fs) k v) ⟨_, e1, q2, q3, t_set q4 hap hk v⟩ (fun j _ => vp_updV_set hl v j)⟩ e2 e3) hll
theorem j_putF (B : pgB p m c s args meth own cc nL D tys A) {C ref : String} {T : u_T} {N ci index : Nat} {a : Nat} {fs : List Value} {v : Value} {ty : FieldType} (hin : ∀ w ∈ u_ws C T N, w ∈ pgWd) (ty0 : Nat → FieldType) (hty : ∀ k, k < N → parseFieldDescriptor (T k).2.2.1 = some (ty0 k)) (hnm : ∀ a, a < N → ∀ b, b < N → a ≠ b → (T a).2.1 ≠ (T b).2.1) (hc : vwCl[ci]? = some (C, T, N)) (hat : ∀ H, Wd H → va_at D vwCl (a, .inr (ci, fs)) H) (k : Nat) (hk : k < N) (hq : Cond.fieldLink own index ref (T k).2.1 (T k).2.2.1 ∈ pgWd) (href : (T k).1 = ref) (hfin : (T k).2.2.2 = true) (hin2 : meth.name = "<init>") (hdecl : (T k).1 = own) (hd : parseFieldDescriptor (T k).2.2.1 = some ty) (hn : narrow ty v = v) (hfit : fits ty v = true) (hl : k < fs.length) (hdg : decode cc pc = .ok (.putfield index, 3)) (hA : A a) (step : ∀ (H H1 : Heap), Wd H → va_at D vwCl (a, .inr (ci, fs.set k v)) H1 → H1.size = H.size → (∀ q : Nat, q ≠ a → H1[q]? = H[q]?) → Wd' H1) (kk : pgJ p l e R s m args below meth c nL A (Wd') (cells) (slots) (Q) (pc + 3) (L) (st)) : pgJ p l e R s m args below meth c nL A (Wd) (cells) (slots) (Q) (pc) (L) (v :: .ref a :: st) := by
  intro H locs ls hS hW hll
  obtain ⟨hx, hb, -, hown, hts, -, hE⟩ := B
  have hK := hE.1
  have hap := va_apart (own := own) hts hin ty0 hty hnm hK hc
  obtain ⟨r, h1, cell, q1, q2, q3, q4⟩ := hat H hW
  have hr : r = (C, T, N) := Option.some.inj (h1.symm.trans hc)
  subst hr
  obtain ⟨hSl, hfc, kC, hkC, hkind⟩ := hK.1 ci _ hc
  obtain ⟨cf, kf, fi, f, hi, hsl⟩ := hSl k hk
  have hlay := hts _ (hin _ (u_in_lay hk))
  unfold u_lay at hlay
  rw [if_pos hfin] at hlay
  have hst := (u_facts hfc hkC (u_lays hts hin hk) hi).1
  have hcf : m.cls = cf := by
    obtain ⟨_, _, c', _, _, _, -, -, hf', -, -, -, hown2, -⟩ := Cond.laysFinal_spec hlay
    have e1 : c' = cf := by have := hi.symm.trans hf'; simp at this; exact this.1.symm
    rw [hdecl] at hown2
    rw [← e1]; exact Option.some.inj (hown.symm.trans hown2)
  have h6 := u_fits hfc hkC hkind (Or.inr hlay) hi hd hn hfit
  refine W.putFinK hx hb hown (hts _ hq) (by rw [← href]; exact hi) hst hcf hin2 (by rw [q2]; exact h6) q1 q3 (by rw [hsl]; exact k2_hasslot (q4 k hk)) rfl rfl hdg fun H' e1 e2 e3 => ?_
  rw [hsl] at e1 ⊢
  exact kk H' _ ls (hS.put e2 e3 hA) (step H H' hW ⟨_, hc, t_OB.to (V := updV (vp_V fs) k v) ⟨_, e1, q2, q3, t_set q4 hap hk v⟩ (fun j _ => vp_updV_set hl v j)⟩ e2 e3) hll
theorem j_iald (B : pgB p m c s args meth own cc nL D tys A) {a n : Nat} {cA : ClassId} {f : Nat → Int32} (hat : ∀ H, Wd H → va_at D vwCl (a, .inl (cA, n, .inl f)) H) (t0 : Nat) (ht : tys[t0]? = some (cA, .int)) {i : Int32} (hin : vp_in i n) (hdg : decode cc pc = .ok (.iaload, 1)) (kk : pgJ p l e R s m args below meth c nL A (Wd) (cells) (slots) (Q) (pc + 1) (L) (.int (f i.toNatClampNeg) :: st)) : pgJ p l e R s m args below meth c nL A (Wd) (cells) (slots) (Q) (pc) (L) (.int i :: .ref a :: st) := fun H locs ls hS hW hl => va_iald B.1 B.2.1 B.2.2.2.2.2.2.1 (pg_one (hat H hW)) 0 t0 rfl ht hin hdg (kk H locs ls hS hW hl)
theorem j_zald (B : pgB p m c s args meth own cc nL D tys A) {a n : Nat} {cA : ClassId} {f : Nat → Int32} (hat : ∀ H, Wd H → va_at D vwCl (a, .inl (cA, n, .inl f)) H) (t0 : Nat) (ht : tys[t0]? = some (cA, .boolean)) {i : Int32} (hin : vp_in i n) (hdg : decode cc pc = .ok (.baload, 1)) (kk : pgJ p l e R s m args below meth c nL A (Wd) (cells) (slots) (Q) (pc + 1) (L) (.int (f i.toNatClampNeg) :: st)) : pgJ p l e R s m args below meth c nL A (Wd) (cells) (slots) (Q) (pc) (L) (.int i :: .ref a :: st) := fun H locs ls hS hW hl => va_zald B.1 B.2.1 B.2.2.2.2.2.2.1 (pg_one (hat H hW)) 0 t0 rfl ht hin hdg (kk H locs ls hS hW hl)
theorem j_lald (B : pgB p m c s args meth own cc nL D tys A) {a n : Nat} {cA : ClassId} {f : Nat → Int64} (hat : ∀ H, Wd H → va_at D vwCl (a, .inl (cA, n, .inr (.inl f))) H) (t0 : Nat) (ht : tys[t0]? = some (cA, .long)) {i : Int32} (hin : vp_in i n) (hdg : decode cc pc = .ok (.laload, 1)) (kk : pgJ p l e R s m args below meth c nL A (Wd) (cells) (slots) (Q) (pc + 1) (L) (.long (f i.toNatClampNeg) :: st)) : pgJ p l e R s m args below meth c nL A (Wd) (cells) (slots) (Q) (pc) (L) (.int i :: .ref a :: st) := fun H locs ls hS hW hl => va_lald B.1 B.2.1 B.2.2.2.2.2.2.1 (pg_one (hat H hW)) 0 t0 rfl ht hin hdg (kk H locs ls hS hW hl)
theorem j_aald (B : pgB p m c s args meth own cc nL D tys A) {a n : Nat} {cA : ClassId} {C : String} {f : Nat → Option Nat} (hat : ∀ H, Wd H → va_at D vwCl (a, .inl (cA, n, .inr (.inr (.inr (.inr f))))) H) (t0 : Nat) (ht : tys[t0]? = some (cA, .object C)) {i : Int32} (hin : vp_in i n) (hdg : decode cc pc = .ok (.aaload, 1)) (kn : f i.toNatClampNeg = none → pgJ p l e R s m args below meth c nL A (Wd) (cells) (slots) (Q) (pc + 1) (L) (.null :: st)) (kr : ∀ y : Nat, f i.toNatClampNeg = some y → pgJ p l e R s m args below meth c nL A (Wd) (cells) (slots) (Q) (pc + 1) (L) (.ref y :: st)) : pgJ p l e R s m args below meth c nL A (Wd) (cells) (slots) (Q) (pc) (L) (.int i :: .ref a :: st) := by
  intro H locs ls hS hW hl
  refine va_aldq B.1 B.2.1 B.2.2.2.2.2.2.1 (pg_one (hat H hW)) 0 t0 rfl ht hin hdg ?_
  cases hf : f i.toNatClampNeg with
  | none => exact kn hf H locs ls hS hW hl
  | some y => exact kr y hf H locs ls hS hW hl
theorem j_alen (B : pgB p m c s args meth own cc nL D tys A) {a : Nat} {cA : ClassId} {x : vp_A} (hat : ∀ H, Wd H → va_at D vwCl (a, .inl (cA, x)) H) (t0 : Nat) {ty : FieldType} (ht : tys[t0]? = some (cA, ty)) {v : Int32} (hv : Int32.ofNat x.1 = v) (hdg : decode cc pc = .ok (.arraylength, 1)) (kk : pgJ p l e R s m args below meth c nL A (Wd) (cells) (slots) (Q) (pc + 1) (L) (.int v :: st)) : pgJ p l e R s m args below meth c nL A (Wd) (cells) (slots) (Q) (pc) (L) (.ref a :: st) := fun H locs ls hS hW hl => va_alen B.1 B.2.1 B.2.2.2.2.2.2.1 (pg_one (hat H hW)) 0 t0 rfl ht hv hdg (kk H locs ls hS hW hl)
theorem j_iast (B : pgB p m c s args meth own cc nL D tys A) {a n : Nat} {cA : ClassId} {f : Nat → Int32} (hat : ∀ H, Wd H → va_at D vwCl (a, .inl (cA, n, .inl f)) H) (t0 : Nat) (ht : tys[t0]? = some (cA, .int)) {i : Int32} {x : Int32} (hin : vp_in i n) (hdg : decode cc pc = .ok (.iastore, 1)) (hA : A a) (step : ∀ (H H1 : Heap), Wd H → va_at D vwCl (a, .inl (cA, n, .inl (upd f i.toNatClampNeg x))) H1 → H1.size = H.size → (∀ q : Nat, q ≠ a → H1[q]? = H[q]?) → Wd' H1) (kk : pgJ p l e R s m args below meth c nL A (Wd') (cells) (slots) (Q) (pc + 1) (L) (st)) : pgJ p l e R s m args below meth c nL A (Wd) (cells) (slots) (Q) (pc) (L) (.int x :: .int i :: .ref a :: st) := by
  intro H locs ls hS hW hll
  obtain ⟨hx, hb, -, hown, hts, -, hE⟩ := B
  have hK := hE.1
  have h0 := hat H hW
  refine W.iast hx hb h0 ((hK.2 t0 _ ht).1 n (fun j => .int (f j))) (fun q => by cases q) (by show ¬ (i < 0 ∨ (arrV _ _ _).slots.size ≤ _); rw [arrV_size]; exact hin) rfl rfl hdg fun H1 e z oq => ?_
  refine kk H1 _ ls (hS.put z oq hA) (step H H1 hW ?_ z oq) hll
  show H1[a]? = some (vp_cell _ _)
  rw [e]
  rw [vp_cell_i, vp_cell_i, arrV_store]
  congr 2
  funext q
  by_cases hq : q = i.toNatClampNeg
  · subst hq
    simp [updV, upd]
    try rfl
  · simp [updV, upd, hq]
theorem j_zast (B : pgB p m c s args meth own cc nL D tys A) {a n : Nat} {cA : ClassId} {f : Nat → Int32} (hat : ∀ H, Wd H → va_at D vwCl (a, .inl (cA, n, .inl f)) H) (t0 : Nat) (ht : tys[t0]? = some (cA, .boolean)) {i : Int32} {x : Int32} (hin : vp_in i n) (hdg : decode cc pc = .ok (.bastore, 1)) (hA : A a) (step : ∀ (H H1 : Heap), Wd H → va_at D vwCl (a, .inl (cA, n, .inl (upd f i.toNatClampNeg (vp_nar .boolean x)))) H1 → H1.size = H.size → (∀ q : Nat, q ≠ a → H1[q]? = H[q]?) → Wd' H1) (kk : pgJ p l e R s m args below meth c nL A (Wd') (cells) (slots) (Q) (pc + 1) (L) (st)) : pgJ p l e R s m args below meth c nL A (Wd) (cells) (slots) (Q) (pc) (L) (.int x :: .int i :: .ref a :: st) := by
  intro H locs ls hS hW hll
  obtain ⟨hx, hb, -, hown, hts, -, hE⟩ := B
  have hK := hE.1
  have h0 := hat H hW
  refine W.zast hx hb h0 ((hK.2 t0 _ ht).1 n (fun j => .int (f j))) (fun q => by cases q) (by show ¬ (i < 0 ∨ (arrV _ _ _).slots.size ≤ _); rw [arrV_size]; exact hin) rfl rfl hdg fun H1 e z oq => ?_
  refine kk H1 _ ls (hS.put z oq hA) (step H H1 hW ?_ z oq) hll
  show H1[a]? = some (vp_cell _ _)
  rw [e]
  rw [vp_cell_i, vp_cell_i, arrV_store]
  congr 2
  funext q
  by_cases hq : q = i.toNatClampNeg
  · subst hq
    simp [updV, upd, vp_nar]
    try rfl
  · simp [updV, upd, vp_nar, hq]
theorem j_last (B : pgB p m c s args meth own cc nL D tys A) {a n : Nat} {cA : ClassId} {f : Nat → Int64} (hat : ∀ H, Wd H → va_at D vwCl (a, .inl (cA, n, .inr (.inl f))) H) (t0 : Nat) (ht : tys[t0]? = some (cA, .long)) {i : Int32} {x : Int64} (hin : vp_in i n) (hdg : decode cc pc = .ok (.lastore, 1)) (hA : A a) (step : ∀ (H H1 : Heap), Wd H → va_at D vwCl (a, .inl (cA, n, .inr (.inl (vp_updL f i.toNatClampNeg x)))) H1 → H1.size = H.size → (∀ q : Nat, q ≠ a → H1[q]? = H[q]?) → Wd' H1) (kk : pgJ p l e R s m args below meth c nL A (Wd') (cells) (slots) (Q) (pc + 1) (L) (st)) : pgJ p l e R s m args below meth c nL A (Wd) (cells) (slots) (Q) (pc) (L) (.long x :: .int i :: .ref a :: st) := by
  intro H locs ls hS hW hll
  obtain ⟨hx, hb, -, hown, hts, -, hE⟩ := B
  have hK := hE.1
  have h0 := hat H hW
  refine W.last hx hb h0 ((hK.2 t0 _ ht).1 n (fun j => .long (f j))) (fun q => by cases q) (by show ¬ (i < 0 ∨ (arrV _ _ _).slots.size ≤ _); rw [arrV_size]; exact hin) rfl rfl hdg fun H1 e z oq => ?_
  refine kk H1 _ ls (hS.put z oq hA) (step H H1 hW ?_ z oq) hll
  show H1[a]? = some (vp_cell _ _)
  rw [e]
  rw [vp_cell_l, vp_cell_l, arrV_store]
  congr 2
  funext q
  by_cases hq : q = i.toNatClampNeg
  · subst hq
    simp [updV, vp_updL]
    try rfl
  · simp [updV, vp_updL, hq]
theorem j_aast (B : pgB p m c s args meth own cc nL D tys A) {a n v : Nat} {cA : ClassId} {ci : Nat} {r : vw_C} {vs : List Value} {f : Nat → Option Nat} (hat : ∀ H, Wd H → va_at D vwCl (a, .inl (cA, n, .inr (.inr (.inr (.inr f))))) H) (t0 : Nat) (ht : tys[t0]? = some (cA, .object r.1)) (hv : ∀ H, Wd H → va_at D vwCl (v, .inr (ci, vs)) H) (hc : vwCl[ci]? = some r) {i : Int32} (hin : vp_in i n) (hdg : decode cc pc = .ok (.aastore, 1)) (hA : A a) (step : ∀ (H H1 : Heap), Wd H → va_at D vwCl (a, .inl (cA, n, .inr (.inr (.inr (.inr (va_up f i.toNatClampNeg (some v))))))) H1 → H1.size = H.size → (∀ q : Nat, q ≠ a → H1[q]? = H[q]?) → Wd' H1) (kk : pgJ p l e R s m args below meth c nL A (Wd') (cells) (slots) (Q) (pc + 1) (L) (st)) : pgJ p l e R s m args below meth c nL A (Wd) (cells) (slots) (Q) (pc) (L) (.ref v :: .int i :: .ref a :: st) := by
  intro H locs ls hS hW hll
  obtain ⟨hx, hb, -, hown, hts, -, hE⟩ := B
  have hK := hE.1
  have hlt : i.toNatClampNeg < n := Nat.not_le.mp fun q => hin (Or.inr q)
  have h0 : ¬ i < 0 := fun q => hin (Or.inl q)
  obtain ⟨r', hr', cellV, g1, g2, g3, -⟩ := hv H hW
  have hcls := (hK.1 ci r hc).2
  obtain ⟨kA, comp, k1, k2, k3, -⟩ := (hK.2 t0 _ ht).2
  have hcomp : comp = D.1 ci := Option.some.inj (k3.symm.trans hcls.1)
  subst hcomp
  obtain ⟨kC, hkC, -⟩ := hcls.2
  refine W.aast hx hb (hat H hW) (fun q h => by cases h) (fun h => by cases h) k1 k2 rfl hkC ⟨h0, by show _ < (arrV _ _ _).slots.size; rw [arrV_size]; exact hlt⟩ g1 (fun q h => by rw [g3] at h; cases h) (by rw [g2]; exact hkC) (by rw [g2]; exact va_assign hcls) rfl rfl hdg fun H1 e z oq => ?_
  refine kk H1 _ ls (hS.put z oq hA) (step H H1 hW ?_ z oq) hll
  show H1[a]? = some (vp_cell _ _)
  rw [e]
  rw [vp_cell_q, vp_cell_q, arrV_store]
  congr 2
  funext q
  by_cases hq : q = i.toNatClampNeg
  · subst hq
    simp [updV, va_up, va_rf]
  · simp [updV, va_up, hq]
theorem j_world (h : ∀ H, Wd H → Wd' H) (kk : pgJ p l e R s m args below meth c nL A (Wd') (cells) (slots) (Q) (pc) (L) (st)) : pgJ p l e R s m args below meth c nL A (Wd) (cells) (slots) (Q) (pc) (L) (st) := fun H locs ls hS hW hl => kk H locs ls hS (h H hW) hl
theorem j_stack {st2 : List Value} (h : stk = st2) (kk : pgJ p l e R s m args below meth c nL A (Wd) (cells) (slots) (Q) (pc) (L) (st2)) : pgJ p l e R s m args below meth c nL A (Wd) (cells) (slots) (Q) (pc) (L) (stk) := h ▸ kk
theorem j_widen {k n : Nat} (h1 : cells ≤ k) (h2 : slots ≤ n) (kk : pgJ p l e R s m args below meth c nL A (Wd) (k) (n) (Q) (pc) (L) (st)) : pgJ p l e R s m args below meth c nL A (Wd) (cells) (slots) (Q) (pc) (L) (st) := fun H locs ls hS hW hl => W.widen h1 h2 (kk H locs ls hS hW hl)
theorem j_locals (ks : List Nat) (h : lv_pick L ks = L') (kk : pgJ p l e R s m args below meth c nL A (Wd) (cells) (slots) (Q) (pc) (L') (st)) : pgJ p l e R s m args below meth c nL A (Wd) (cells) (slots) (Q) (pc) (L) (st) := fun H locs ls hS hW hl => kk H locs ls hS hW (lv_sub hl ks h)
theorem j_fact {P : Prop} (h : ∀ H, Wd H → P) (kk : P → pgJ p l e R s m args below meth c nL A (Wd) (cells) (slots) (Q) (pc) (L) (st)) : pgJ p l e R s m args below meth c nL A (Wd) (cells) (slots) (Q) (pc) (L) (st) := fun H locs ls hS hW hl => kk (h H hW) H locs ls hS hW hl
end PGJ
