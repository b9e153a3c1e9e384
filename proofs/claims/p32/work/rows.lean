section
-- ===== PART A: goes FIRST, ahead of the names: the tables' words, and 'selects' of the private methods out of them =====
/-- a private method of a class that the tables say can be made, by its rows of tables_1 -/
def lw_okq (q : MethodName × Nat) : Prop := (q.1.cls ≠ "java/lang/invoke/MethodHandle" ∧ q.1.cls ≠ "java/lang/invoke/VarHandle") ∧ Cond.instantiable q.1.cls q.2 ∈ tables_1 ∧ Cond.privateMethod q.1 ∈ tables_1 ∧ Cond.instanceMethod q.1 ∈ tables_1
theorem lw_p0 : lw_okq (⟨"java/lang/Throwable", "fillInStackTrace", "(I)Ljava/lang/Throwable;"⟩, 6) := ⟨⟨by decide +kernel, by decide +kernel⟩, List.mem_of_getElem? (i := 126) (by decide +kernel), List.mem_of_getElem? (i := 124) (by decide +kernel), List.mem_of_getElem? (i := 125) (by decide +kernel)⟩
theorem lw_p1 : lw_okq (⟨"Shredroll", "handOver", "(LShredroll$Disk;I)V"⟩, 7) := ⟨⟨by decide +kernel, by decide +kernel⟩, List.mem_of_getElem? (i := 15) (by decide +kernel), List.mem_of_getElem? (i := 238) (by decide +kernel), List.mem_of_getElem? (i := 239) (by decide +kernel)⟩
theorem lw_p2 : lw_okq (⟨"Shredroll", "findDisk", "(I)LShredroll$Disk;"⟩, 7) := ⟨⟨by decide +kernel, by decide +kernel⟩, List.mem_of_getElem? (i := 15) (by decide +kernel), List.mem_of_getElem? (i := 246) (by decide +kernel), List.mem_of_getElem? (i := 247) (by decide +kernel)⟩
theorem lw_p3 : lw_okq (⟨"Shredroll", "findCrate", "(I)LShredroll$Crate;"⟩, 7) := ⟨⟨by decide +kernel, by decide +kernel⟩, List.mem_of_getElem? (i := 15) (by decide +kernel), List.mem_of_getElem? (i := 301) (by decide +kernel), List.mem_of_getElem? (i := 302) (by decide +kernel)⟩
theorem lw_p4 : lw_okq (⟨"Shredroll", "countDisksIn", "(LShredroll$Crate;)I"⟩, 7) := ⟨⟨by decide +kernel, by decide +kernel⟩, List.mem_of_getElem? (i := 15) (by decide +kernel), List.mem_of_getElem? (i := 335) (by decide +kernel), List.mem_of_getElem? (i := 336) (by decide +kernel)⟩
theorem lw_p5 : lw_okq (⟨"Shredroll", "handOverDisksIn", "(LShredroll$Crate;)V"⟩, 7) := ⟨⟨by decide +kernel, by decide +kernel⟩, List.mem_of_getElem? (i := 15) (by decide +kernel), List.mem_of_getElem? (i := 401) (by decide +kernel), List.mem_of_getElem? (i := 402) (by decide +kernel)⟩
def lw_privs_1 : List (MethodName × Nat) := [(⟨"java/lang/Throwable", "fillInStackTrace", "(I)Ljava/lang/Throwable;"⟩, 6), (⟨"Shredroll", "handOver", "(LShredroll$Disk;I)V"⟩, 7), (⟨"Shredroll", "findDisk", "(I)LShredroll$Disk;"⟩, 7), (⟨"Shredroll", "findCrate", "(I)LShredroll$Crate;"⟩, 7), (⟨"Shredroll", "countDisksIn", "(LShredroll$Crate;)I"⟩, 7), (⟨"Shredroll", "handOverDisksIn", "(LShredroll$Crate;)V"⟩, 7)]
theorem lw_r1 : ∀ q ∈ lw_privs_1, lw_okq q := List.forall_mem_cons.mpr ⟨lw_p0, List.forall_mem_cons.mpr ⟨lw_p1, List.forall_mem_cons.mpr ⟨lw_p2, List.forall_mem_cons.mpr ⟨lw_p3, List.forall_mem_cons.mpr ⟨lw_p4, List.forall_mem_cons.mpr ⟨lw_p5, fun _ h => absurd h List.not_mem_nil⟩⟩⟩⟩⟩⟩
def lw_privs : List (MethodName × Nat) := lw_privs_1
def lw_tbl : List Cond := k2_sels lw_privs ++ tables_1
theorem lw_privs_ok : ∀ q ∈ lw_privs, lw_okq q := lw_r1
end
section
/-! ===== BEGIN words of one list among another's, by their places ===== -/
theorem goodIn_r {big : List Cond} (ws : List Cond) (ps : List Nat) (hp : ws = ps.filterMap (fun i => big[i]?)) (h : ws.all goodWord = true) : GoodIn big ws := by
  intro w hw
  have h1 := List.all_eq_true.mp h w hw
  rw [hp] at hw
  obtain ⟨i, -, hi⟩ := List.mem_filterMap.mp hw
  have hm : w ∈ big := by first | exact List.mem_of_getElem? hi | exact List.getElem?_mem hi
  exact ⟨hm, good_of_word h1⟩
theorem goodIn_app {big a b : List Cond} (ha : GoodIn big a) (hb : GoodIn big b) : GoodIn big (a ++ b) := fun w h => (List.mem_append.mp h).elim (ha w) (hb w)
theorem goodIn_ca {big a b : List Cond} {c : Cond} (ha : GoodIn big (c :: a)) (hb : GoodIn big b) : GoodIn big (c :: (a ++ b)) := fun w h => (List.mem_cons.mp h).elim (fun e => ha w (List.mem_cons.mpr (Or.inl e))) (fun h => (List.mem_append.mp h).elim (fun h => ha w (List.mem_cons.mpr (Or.inr h))) (hb w))
theorem goodIn_sub {big ws : List Cond} (hm : ∀ w ∈ ws, w ∈ big) (h : ws.all goodWord = true) : GoodIn big ws := fun w hw => ⟨hm w hw, good_of_word (List.all_eq_true.mp h w hw)⟩
/-! ===== END ===== -/

/-! ===== BEGIN exceptions that leave a method, and their catching by the caller (launches without stack traces) ===== -/
section VXA
/-! The laws vx_back, vx_callV, vx_callS, vx_callSW, vx_throw0, vx_throwS follow proofs of the library, with one case more: JvmDerived/Free/Laws.lean (Back.of_free), Shelf42/LK1.lean (callV, callS), Shelf/KitTraced.lean (throwNew0V, throwNewS). -/
/-- where a method has thrown q: the class by its name, the cell, what was written, the world -/
def vx_T (XC : String → State → State → Prop) (st : State) (q : Addr) (t : State) (mc ms : Nat) (free : Addr → Prop) : Prop :=
  ∃ (E : String) (ce : Cell) (L : List Loc), XC E st t ∧ t.heap[q]? = some ce ∧ ce.vm = .none ∧ st.vm.findClass E = some ce.cls ∧ st.WarmedH t.vm ∧ st.sameButNew ({ t with vm := st.vm } : State) L mc ms ∧ ∀ z ∈ L, free z.base
def vx_Q (Qc : Array Value → State → Outcome → State → Prop) (XC : String → State → State → Prop) (mc ms : Nat) (free : Addr → Prop) : Array Value → State → Outcome → State → Prop := fun a st o t =>
  (Qc a st o t ∧ ∃ L, FrameEnd st o t L mc ms ∧ ∀ q ∈ L, free q.base) ∨ ∃ q, o = .threw q ∧ vx_T XC st q t mc ms free
/-- a callee that returns or throws -/
def vx_Met (l : Launch) (y : MethodName) (ws : List Cond) (rm : Room) (Pc : Array Value → State → Prop) (Qc : Array Value → State → Outcome → State → Prop) (XC : String → State → State → Prop) (mc ms : Nat) (free : Addr → Prop) : Prop :=
  MetFree l y (headSpec ws rm) Pc (fun _ _ _ _ _ => True) (vx_Q Qc XC mc ms free)
def vx_Post (XC : String → State → State → Prop) (mc ms : Nat) (free : Addr → Prop) : Pt → Array Value → Addr → Pt → Prop := fun A a q B =>
  ∃ (g : JFrame) (mk : MethodId) (t : State) (L : List Loc) (E : String) (ce : Cell), B.U.heap = t.heap ∧ B.U.vm = t.vm ∧ XC E (A.U.calling g mk a) t ∧ t.heap[q]? = some ce ∧ ce.vm = .none ∧ A.U.vm.findClass E = some ce.cls ∧ B.locs = A.locs ++ L ∧ (∀ z ∈ L, free z.base) ∧ B.cells = A.cells + mc ∧ B.slots = A.slots + ms
def vx_Back (l : Launch) (R : Room) (p : Program) (e : Env) (below : List Frame) (s : State) (sargs : Array Value) (y : MethodName) (len W9 : Nat)
    (Pre : Pt → Array Value → Prop) (Post : Pt → Array Value → Option Value → Pt → Prop) (PostX : Pt → Array Value → Addr → Pt → Prop) : Prop :=
  ∀ (m : MethodId) (meth : Method) (c : Code) (A : Pt) (g : JFrame) (ig : Instr) (mk : MethodId) (a : Array Value),
    Stand p l e R s m sargs below meth c A.U A.locs A.cells A.slots → g.method = m → g.locals.size = c.maxLocals → decode c.code g.pc = .ok (ig, len) →
    2 * g.monitorRoom + (g.stack.map fun v => v.category).sum ≤ W9 → A.U.methodNamed? y = some mk → Pre A a →
    (∃ (v : Option Value) (B : Pt), Stand p l e R s m sargs below meth c B.U B.locs B.cells B.slots ∧ Post A a v B ∧
      Steps p.tables e below (doInvoke e (A.U.setTop g) [] mk a).1 (B.U.setTop { g with pc := g.pc + len, stack := v.toList ++ g.stack })) ∨
    (∃ (q : Addr) (B : Pt), Stand p l e R s m sargs below meth c B.U B.locs B.cells B.slots ∧ PostX A a q B ∧
      Steps p.tables e below (doInvoke e (A.U.setTop g) [] mk a).1 ((B.U.setTop g).pushFrame (.throwing q)))
section Payer
variable {l : Launch} {R : Room} {p : Program} {e : Env} {below : List Frame} {s : State} {sargs : Array Value} {y : MethodName} {len W9 : Nat}
theorem vx_back {ws : List Cond} {rm : Room} {Pc : Array Value → State → Prop} {Qc : Array Value → State → Outcome → State → Prop} {XC : String → State → State → Prop} {mc ms : Nat} {free : Addr → Prop} {bytes : ByteArray} {maxL : Nat} {ret : Option FieldType}
    (hM : vx_Met l y ws rm Pc Qc XC mc ms free) (hblind : FrameBlind Pc) (hrc : rm.cells = mc) (hrs : rm.slots = ms)
    (hframes : rm.frames + 1 ≤ R.frames) (hlocals : W9 + (maxL + 11) + rm.locals ≤ R.locals)
    (hws : ∀ w ∈ ws, ∀ a' U, s.WarmedH U.vm → w.before a' U = true) (hcode : Cond.code y bytes maxL ret ∈ ws) (hinit : ∀ a' U, s.WarmedH U.vm → (Cond.initialized y.cls).before a' U = true) :
    vx_Back l R p e below s sargs y len W9 (PreOf R mc ms Pc) (PostOf Qc mc ms free) (vx_Post XC mc ms free) := by
  intro m meth c A g ig mk a X hg hsize hdg hW hn hp
  have h1 : (headSpec ws rm).pre.before a A.U = true := atoms_intro fun w hw => hws w hw _ _ X.warmed
  have h2 : (Cond.code y bytes maxL ret).before a A.U = true := hws _ hcode _ _ X.warmed
  have h3 : (Cond.initialized y.cls).before a A.U = true := hinit _ _ X.warmed
  have h4 : A.cells + (headSpec ws rm).room.cells ≤ R.cells := by rw [show (headSpec ws rm).room.cells = mc from hrc]; exact hp.1
  have h5 : A.slots + (headSpec ws rm).room.slots ≤ R.slots := by rw [show (headSpec ws rm).room.slots = ms from hrs]; exact hp.2.1
  have hPc : Pc a (A.U.calling g mk a) := hblind _ _ _ _ hp.2.2
  obtain ⟨U, Ls, c0, s0⟩ := A
  dsimp only [Pt.U, Pt.locs, Pt.cells, Pt.slots] at h1 h2 h3 h4 h5 X hn hPc ⊢
  obtain ⟨methY, cY, hmY, hcY, -, hlY, -, -, -, -⟩ := Cond.code_spec hn h2
  obtain ⟨kY, hkY, -⟩ := className_of_methodNamed hn
  have hinitY : kY.init = .initialized := Cond.initialized_spec (findClass_of_methodNamed hn) hkY h3
  have h : At U g.method c below := by rw [hg]; exact X.here
  have hlocals9 : W9 + (maxL + 11) + (headSpec ws rm).room.locals ≤ R.locals := hlocals
  have happ : (headSpec ws rm).appliesLoose y e.platform (U.calling g mk a) = true :=
    Spec.appliesLoose_calling (g := g) h hdg hn hkY hinitY
      (X.room_calling (g := g) (R' := (headSpec ws rm).room) hsize hmY hcY hframes (by rw [hlY]; omega) h4 h5) h1
  obtain ⟨mid, hmid⟩ := h.above
  have hfr : (U.setTop g).frames = (.java g :: mid) ++ below := by rw [State.frames_setTop' g h.top, hmid]; rfl
  obtain ⟨o, s₂, hsteps, -, hend, hq⟩ := Steps.callFree hM p X.admits X.cas X.clock (acts := []) hfr happ hPc trivial
  have hq' : vx_Q Qc XC mc ms free a (U.calling g mk a) o s₂ := hq
  rw [State.frames_setTop' g h.top] at hend
  obtain ⟨g₀, hg0⟩ := Option.isSome_iff_exists.mp h.top
  obtain ⟨r, hr⟩ := State.topJava?_eq_some.mp hg0
  have hr' : (({ U with heap := s₂.heap, slotsUsed := s₂.slotsUsed } : State).setVm s₂.vm).frames = .java g₀ :: r := hr
  rcases hq' with ⟨hqc, L, hfe, hL⟩ | ⟨q, rfl, E, ce, L, hx, hce, hcv, hcl, hW₂, hsm, hL⟩
  · obtain ⟨⟨v, rfl⟩, hW₂, e2, q2, q3, q4, q5, q6⟩ := id hfe
    have e3 : s₂ = ({ (U.calling g mk a).setFrames s₂.frames with heap := s₂.heap, slotsUsed := s₂.slotsUsed } : State).setVm s₂.vm := by
      have : s₂ = ({ s₂ with vm := (U.calling g mk a).vm } : State).setVm s₂.vm := rfl
      rw [e2] at this
      exact this
    obtain ⟨c₂, i₂, len₂, hc₂, hd₂, hf₂⟩ := hend
    have hW' : U.WarmedH s₂.vm := hW₂
    have hcc : c₂ = c := by
      have h1 : s₂.code? g.method = U.code? g.method := by
        rw [State.code?_eq, State.code?_eq, hW'.alike.method?]
      exact Option.some.inj (hc₂.symm.trans (h1.trans h.code))
    subst hcc
    have hlen : len₂ = len := by rw [hdg] at hd₂; cases hd₂; rfl
    subst hlen
    have hs₂ : s₂ = (({ U with heap := s₂.heap, slotsUsed := s₂.slotsUsed } : State).setVm s₂.vm).setTop { g with pc := g.pc + len₂, stack := v.toList ++ g.stack } := by
      refine e3.trans ?_
      rw [hf₂, State.calling_eq h.top, State.setFrames_setFrames, State.setTop_of_frames _ hr', hr]
      rfl
    have hsame : U.sameButNew ({ U with heap := s₂.heap, slotsUsed := s₂.slotsUsed } : State) L mc ms := by
      refine ⟨?_, q2, q3, q4, q5, q6⟩
      obtain ⟨t, ht, -⟩ := State.frames_cons hr
      show ({ U with heap := s₂.heap, slotsUsed := s₂.slotsUsed } : State) = { U.setFrames U.frames with heap := s₂.heap, slotsUsed := s₂.slotsUsed }
      rw [State.setFrames_self ht]
    subst hg
    refine Or.inl ⟨v, ⟨(({ U with heap := s₂.heap, slotsUsed := s₂.slotsUsed } : State).setVm s₂.vm), Ls ++ L, c0 + mc, s0 + ms⟩,
      ⟨X.admits, X.cas, X.clock, X.frames, X.room, X.hears, X.method, X.code, (X.here.setHeapUsed s₂.heap s₂.slotsUsed).setVm hW'.alike, X.tail, State.WarmedH.trans X.warmed hW', X.limits, X.bytes, X.same.trans (hsame.setVm s.vm)⟩,
      ⟨g, mk, s₂, L, rfl, rfl, hqc, rfl, hL, rfl, rfl⟩, ?_⟩
    show Steps p.tables e below _ ((({ U with heap := s₂.heap, slotsUsed := s₂.slotsUsed } : State).setVm s₂.vm).setTop { g with pc := g.pc + len₂, stack := v.toList ++ g.stack })
    rw [← hs₂]
    exact hsteps
  · obtain ⟨e2, q2, q3, q4, q5, q6⟩ := id hsm
    have e3 : s₂ = ({ (U.calling g mk a).setFrames s₂.frames with heap := s₂.heap, slotsUsed := s₂.slotsUsed } : State).setVm s₂.vm := by
      have : s₂ = ({ s₂ with vm := (U.calling g mk a).vm } : State).setVm s₂.vm := rfl
      rw [e2] at this
      exact this
    have hf₂ : s₂.frames = .throwing q :: .java g :: U.frames.tail := hend
    have hW' : U.WarmedH s₂.vm := hW₂
    have hs₂ : s₂ = ((({ U with heap := s₂.heap, slotsUsed := s₂.slotsUsed } : State).setVm s₂.vm).setTop g).pushFrame (.throwing q) := by
      refine e3.trans ?_
      rw [hf₂, State.calling_eq h.top, State.setFrames_setFrames, State.pushFrame, State.frames_setTop _ hr', State.setTop_of_frames _ hr', State.setFrames_setFrames, hr]
      rfl
    have hsame : U.sameButNew ({ U with heap := s₂.heap, slotsUsed := s₂.slotsUsed } : State) L mc ms := by
      refine ⟨?_, q2, q3, q4, q5, q6⟩
      obtain ⟨t, ht, -⟩ := State.frames_cons hr
      show ({ U with heap := s₂.heap, slotsUsed := s₂.slotsUsed } : State) = { U.setFrames U.frames with heap := s₂.heap, slotsUsed := s₂.slotsUsed }
      rw [State.setFrames_self ht]
    subst hg
    refine Or.inr ⟨q, ⟨(({ U with heap := s₂.heap, slotsUsed := s₂.slotsUsed } : State).setVm s₂.vm), Ls ++ L, c0 + mc, s0 + ms⟩,
      ⟨X.admits, X.cas, X.clock, X.frames, X.room, X.hears, X.method, X.code, (X.here.setHeapUsed s₂.heap s₂.slotsUsed).setVm hW'.alike, X.tail, State.WarmedH.trans X.warmed hW', X.limits, X.bytes, X.same.trans (hsame.setVm s.vm)⟩,
      ⟨g, mk, s₂, L, E, ce, rfl, rfl, hx, hce, hcv, hcl, rfl, hL, rfl, rfl⟩, ?_⟩
    show Steps p.tables e below _ (((({ U with heap := s₂.heap, slotsUsed := s₂.slotsUsed } : State).setVm s₂.vm).setTop g).pushFrame (.throwing q))
    rw [← hs₂]
    exact hsteps
end Payer
section Calls
variable {p : Program} {l : Launch} {e : Env} {R : Room} {s : State} {m : MethodId} {args : Array Value} {below : List Frame} {meth : Method} {c : Code} {T : State} {locs : List Loc} {cells slots : Nat}
theorem vx_callV (X : Stand p l e R s m args below meth c T locs cells slots) (hexec : p.tables.exec = Jvm.exec) {own C : String} {index : Nat} {y : MethodName} {bytes : ByteArray} {maxL : Nat} {ret : Option FieldType}
    (hown : s.vm.findClass own = some m.cls) (hlink : (Cond.methodLink own index y).before args s = true) (hinst : (Cond.instanceMethod y).before args s = true) (hsel : (Cond.selects C y y).before args s = true)
    (hcode : (Cond.code y bytes maxL ret).before args s = true) (hy : y.cls ≠ "java/lang/invoke/MethodHandle" ∧ y.cls ≠ "java/lang/invoke/VarHandle")
    {W9 : Nat} {Pre : Pt → Array Value → Prop} {Post : Pt → Array Value → Option Value → Pt → Prop} {PostX : Pt → Array Value → Addr → Pt → Prop} (hK : vx_Back l R p e below s args y 3 W9 Pre Post PostX)
    {b : Addr} {cellB : Cell} (hcell : T.heap[b]? = some cellB) (hobj : cellB.vm.isStatics = false) (hcls : s.vm.findClass C = some cellB.cls)
    {g : JFrame} (hg : g.method = m) (hsize : g.locals.size = c.maxLocals) {argsL rest : List Value} (hlen : ∀ sig, parseMethodDescriptor y.desc = some sig → argsL.length = sig.parameters.length)
    (hstack : g.stack = argsL.reverse ++ .ref b :: rest) (hW : 2 * g.monitorRoom + (rest.map fun v => v.category).sum ≤ W9) (hdg : decode c.code g.pc = .ok (.invokevirtual index, 3))
    (hpre : ∀ vm₁, s.WarmedH vm₁ → Pre ⟨T.setVm vm₁, locs, cells, slots⟩ (Value.ref b :: argsL).toArray) :
    (∃ (v : Option Value) (vm₁ : Vm) (B : Pt), s.WarmedH vm₁ ∧ Stand p l e R s m args below meth c B.U B.locs B.cells B.slots ∧ Post ⟨T.setVm vm₁, locs, cells, slots⟩ (Value.ref b :: argsL).toArray v B ∧
      ∀ target, Steps p.tables e below (B.U.setTop { g with pc := g.pc + 3, stack := v.toList ++ rest }) target → Steps p.tables e below (T.setTop g) target) ∨
    (∃ (q : Addr) (vm₁ : Vm) (B : Pt), s.WarmedH vm₁ ∧ Stand p l e R s m args below meth c B.U B.locs B.cells B.slots ∧ PostX ⟨T.setVm vm₁, locs, cells, slots⟩ (Value.ref b :: argsL).toArray q B ∧
      Steps p.tables e below (T.setTop g) ((B.U.setTop { g with stack := rest }).pushFrame (.throwing q))) := by
  obtain ⟨mk, methM, hnamed, hmethM, hstM, habM⟩ := Cond.instanceMethod_spec hinst
  obtain ⟨methM', cM, hmethM', -, -, -, -, -, -, hsigM⟩ := Cond.code_spec hnamed hcode
  cases hmethM.symm.trans hmethM'
  obtain ⟨c2, r2, m2, q1, q2, q3, q4, kP, hkP, hkPi⟩ := Cond.selects_spec hsel
  cases hcls.symm.trans q1
  cases (State.methodFound?_of_named hnamed hy).symm.trans q2
  cases hnamed.symm.trans q3
  have hselP : selectMethod e.platform s.vm cellB.cls mk = .method mk := by rw [Launch.admits_selectMethod X.admits]; exact q4
  obtain ⟨vm₁, X₁, hstep₁⟩ := X.invokevirtual hexec hown hlink hnamed hmethM hstM hkP hkPi hy (a := b) (cell := cellB) hcell
    (fun z h => by rw [h] at hobj; cases hobj) hselP hmethM habM hkP hkPi (g := g) hg (argsL := argsL) (rest := rest) (hlen _ hsigM) hstack hdg
  rcases hK m meth c ⟨T.setVm vm₁, locs, cells, slots⟩ { g with stack := rest } (.invokevirtual index) mk (Value.ref b :: argsL).toArray X₁ hg hsize hdg hW (X₁.named hnamed) (hpre vm₁ X₁.warmed) with ⟨v, B, X', hpost, hsteps⟩ | ⟨q, B, X', hpost, hsteps⟩
  · exact Or.inl ⟨v, vm₁, B, X₁.warmed, X', hpost, fun target h => hstep₁ _ fun acts => by rw [doInvoke_state]; exact hsteps.trans h⟩
  · exact Or.inr ⟨q, vm₁, B, X₁.warmed, X', hpost, hstep₁ _ fun acts => by rw [doInvoke_state]; exact hsteps⟩
theorem vx_callS (X : Stand p l e R s m args below meth c T locs cells slots) (hexec : p.tables.exec = Jvm.exec) {own : String} {index : Nat} {y : MethodName} {bytes : ByteArray} {maxL : Nat} {ret : Option FieldType}
    (hown : s.vm.findClass own = some m.cls) (hlink : (Cond.methodLink own index y).before args s = true) (hstat : (Cond.static y).before args s = true) (hinit : (Cond.initialized y.cls).before args s = true)
    (hcode : (Cond.code y bytes maxL ret).before args s = true) (hy : y.cls ≠ "java/lang/invoke/MethodHandle" ∧ y.cls ≠ "java/lang/invoke/VarHandle")
    {W9 : Nat} {Pre : Pt → Array Value → Prop} {Post : Pt → Array Value → Option Value → Pt → Prop} {PostX : Pt → Array Value → Addr → Pt → Prop} (hK : vx_Back l R p e below s args y 3 W9 Pre Post PostX)
    {g : JFrame} (hg : g.method = m) (hsize : g.locals.size = c.maxLocals) {argsL rest : List Value} (hlen : ∀ sig, parseMethodDescriptor y.desc = some sig → argsL.length = sig.parameters.length)
    (hstack : g.stack = argsL.reverse ++ rest) (hW : 2 * g.monitorRoom + (rest.map fun v => v.category).sum ≤ W9) (hdg : decode c.code g.pc = .ok (.invokestatic index, 3))
    (hpre : ∀ vm₁, s.WarmedH vm₁ → Pre ⟨T.setVm vm₁, locs, cells, slots⟩ argsL.toArray) :
    (∃ (v : Option Value) (vm₁ : Vm) (B : Pt), s.WarmedH vm₁ ∧ Stand p l e R s m args below meth c B.U B.locs B.cells B.slots ∧ Post ⟨T.setVm vm₁, locs, cells, slots⟩ argsL.toArray v B ∧
      ∀ target, Steps p.tables e below (B.U.setTop { g with pc := g.pc + 3, stack := v.toList ++ rest }) target → Steps p.tables e below (T.setTop g) target) ∨
    (∃ (q : Addr) (vm₁ : Vm) (B : Pt), s.WarmedH vm₁ ∧ Stand p l e R s m args below meth c B.U B.locs B.cells B.slots ∧ PostX ⟨T.setVm vm₁, locs, cells, slots⟩ argsL.toArray q B ∧
      Steps p.tables e below (T.setTop g) ((B.U.setTop { g with stack := rest }).pushFrame (.throwing q))) := by
  obtain ⟨mk, hnamed⟩ := Cond.code_named hcode
  obtain ⟨methM, cM, hmethM, -, -, -, -, -, -, hsigM⟩ := Cond.code_spec hnamed hcode
  have hstatic : methM.isStatic = true := Cond.static_spec hnamed hmethM hstat
  obtain ⟨kP, hkP, -⟩ := className_of_methodNamed hnamed
  have hinitP : kP.init = .initialized := Cond.initialized_spec (findClass_of_methodNamed hnamed) hkP hinit
  obtain ⟨vm₁, X₁, hstep₁⟩ := X.invokestatic hexec hown hlink hnamed hmethM hstatic hkP hinitP hy (g := g) hg (argsL := argsL) (rest := rest) (hlen _ hsigM) hstack hdg
  rcases hK m meth c ⟨T.setVm vm₁, locs, cells, slots⟩ { g with stack := rest } (.invokestatic index) mk argsL.toArray X₁ hg hsize hdg hW (X₁.named hnamed) (hpre vm₁ X₁.warmed) with ⟨v, B, X', hpost, hsteps⟩ | ⟨q, B, X', hpost, hsteps⟩
  · exact Or.inl ⟨v, vm₁, B, X₁.warmed, X', hpost, fun target h => hstep₁ _ fun acts => by rw [doInvoke_state]; exact hsteps.trans h⟩
  · exact Or.inr ⟨q, vm₁, B, X₁.warmed, X', hpost, hstep₁ _ fun acts => by rw [doInvoke_state]; exact hsteps⟩
end Calls
theorem vx_cls {s : State} {T : State} {vm₁ : Vm} {E : String} {k : ClassId} (hW : s.WarmedH vm₁) (h : (T.setVm vm₁).vm.findClass E = some k) : s.vm.findClass E = some k := by
  have h1 : vm₁.findClass E = some k := h
  rw [hW.alike.findClass] at h1
  exact h1
/-- the method's frame g, with q thrown over it -/
def vx_W (p : Program) (l : Launch) (e : Env) (R : Room) (s : State) (m : MethodId) (args : Array Value) (below : List Frame) (meth : Method) (c : Code) (H : Heap) (locs : List Loc) (cells slots : Nat) (Q : State → Prop) (g : JFrame) (q : Addr) : Prop :=
  ∀ T : State, T.heap = H → Stand p l e R s m args below meth c T locs cells slots → ∃ t, Steps p.tables e below ((T.setTop g).pushFrame (.throwing q)) t ∧ Q t
def vx_Run (p : Program) (l : Launch) (e : Env) (R : Room) (s : State) (m : MethodId) (args : Array Value) (below : List Frame) (meth : Method) (c : Code) (H : Heap) (locs : List Loc) (cells slots mc ms : Nat) (g : JFrame) (rest : List Value) (Qa : State → Outcome → State → Prop) (XC : String → State → State → Prop) (free : Addr → Prop) : Prop :=
  ∀ T : State, T.heap = H → Stand p l e R s m args below meth c T locs cells slots →
    (∃ (v : Option Value) (st₀ t T' : State) (L : List Loc), st₀.heap = H ∧ Stand p l e R s m args below meth c T' (locs ++ L) (cells + mc) (slots + ms) ∧ (∀ q ∈ L, free q.base) ∧ T'.heap = t.heap ∧ T'.vm = t.vm ∧ Qa st₀ (.returned v) t ∧
      Goes p e below T g T' { g with pc := g.pc + 3, stack := v.toList ++ rest }) ∨
    (∃ (q : Addr) (st₀ t T' : State) (L : List Loc) (E : String) (ce : Cell), st₀.heap = H ∧ Stand p l e R s m args below meth c T' (locs ++ L) (cells + mc) (slots + ms) ∧ (∀ z ∈ L, free z.base) ∧ T'.heap = t.heap ∧ T'.vm = t.vm ∧ XC E st₀ t ∧ t.heap[q]? = some ce ∧ ce.vm = .none ∧ s.vm.findClass E = some ce.cls ∧
      Steps p.tables e below (T.setTop g) ((T'.setTop { g with stack := rest }).pushFrame (.throwing q)))
def vx_X {S : Type} (px : S → Prop) (B : String → S → State → Prop) (A : Nat → Prop) : String → State → State → Prop := fun E st t => ∃ u : S, px u ∧ B E u t ∧ va_F A st t
section Runs
variable {p : Program} {l : Launch} {e : Env} {R : Room} {s : State} {m : MethodId} {args : Array Value} {below : List Frame} {meth : Method} {c : Code} {H : Heap} {locs : List Loc} {cells slots : Nat}
variable {y : MethodName} {bytes cc : ByteArray} {maxL nL mc ms n index : Nat} {ret : Option FieldType} {ws : List Cond} {rm : Room} {Pc : Array Value → State → Prop} {Qc : Array Value → State → Outcome → State → Prop} {XC : String → State → State → Prop} {free : Addr → Prop} {Ts : List Cond} {own C : String} {b : Addr} {As rest : List Value} {g : JFrame}
theorem vx_callBack (cb : CallB R s args own index y bytes maxL ret ws rm mc ms n) (hM : vx_Met l y ws rm Pc Qc XC mc ms free) (hbl : FrameBlind Pc) : vx_Back l R p e below s args y 3 8 (PreOf R mc ms Pc) (PostOf Qc mc ms free) (vx_Post XC mc ms free) := by
  obtain ⟨hrc, hrs, hfr, hlo, hws, hcw, -, hini, -⟩ := cb
  exact vx_back (bytes := bytes) (maxL := maxL) (ret := ret) hM hbl hrc hrs hfr hlo hws hcw (fun a' U hW => word_at hW (Or.inl (by first | rfl | simp [Cond.onTables, Cond.keeps, Cond.steady])) hini)
theorem vx_runV (S : CallFix p m c cc nL s args Ts own) (hM : vx_Met l y ws rm Pc Qc XC mc ms free) (cw : CallW R s args own C index y bytes maxL ret ws rm mc ms n) (hp : PreV s H C b Pc As)
    (hg : g.method = m) (hn : As.length = n) (hsize : g.locals.size = nL) (hstack : g.stack = As.reverse ++ .ref b :: rest) (hW : 2 * g.monitorRoom + (rest.map fun v => v.category).sum ≤ 8) (hdg : decode cc g.pc = .ok (.invokevirtual index, 3)) (hf : cells + mc ≤ R.cells ∧ slots + ms ≤ R.slots) :
    vx_Run p l e R s m args below meth c H locs cells slots mc ms g rest (Qc (Value.ref b :: As).toArray) XC free := by
  have hK : vx_Back l R p e below s args y 3 8 (PreOf R mc ms Pc) (PostOf Qc mc ms free) (vx_Post XC mc ms free) := vx_callBack cw.1 hM hp.1
  obtain ⟨⟨-, -, -, -, -, -, hcode, -, hy, hlen, hl⟩, hin, hse⟩ := cw
  obtain ⟨hx, hb, hml, ho, -⟩ := S
  obtain ⟨-, ⟨cellB, hcB, hoB, hclB⟩, hPc⟩ := hp
  intro T hT X
  rcases vx_callV X hx (C := C) (bytes := bytes) (maxL := maxL) (ret := ret) ho hl hin hse hcode hy hK (by rw [hT]; exact hcB) hoB hclB hg (hsize.trans hml.symm) (argsL := As) (rest := rest) (fun sig h => hn.trans (hlen sig h)) hstack hW (by rw [hb]; exact hdg)
    (fun vm₁ hW₁ => ⟨hf.1, hf.2, hPc (T.setVm vm₁) hT hW₁⟩) with ⟨v, vm₁, ⟨U', l2, c2, s2⟩, hW₁, X', ⟨g', mk, t, L, e1, e2, hq, h1, hL, h2, h3⟩, st⟩ | ⟨q, vm₁, ⟨U', l2, c2, s2⟩, hW₁, X', ⟨g', mk, t, L, E, ce, e1, e2, hq, hce, hcv, hcl, h1, hL, h2, h3⟩, st⟩
  · dsimp only [Pt.U, Pt.locs, Pt.cells, Pt.slots] at X' e1 e2 h1 h2 h3 st
    subst h1; subst h2; subst h3
    exact Or.inl ⟨v, (T.setVm vm₁).calling g' mk (Value.ref b :: As).toArray, t, U', L, hT, X', hL, e1, e2, hq, st⟩
  · dsimp only [Pt.U, Pt.locs, Pt.cells, Pt.slots] at X' e1 e2 h1 h2 h3 st hcl
    subst h1; subst h2; subst h3
    exact Or.inr ⟨q, (T.setVm vm₁).calling g' mk (Value.ref b :: As).toArray, t, U', L, E, ce, hT, X', hL, e1, e2, hq, hce, hcv, vx_cls hW₁ hcl, st⟩
theorem vx_runS (S : CallFix p m c cc nL s args Ts own) (hM : vx_Met l y ws rm Pc Qc XC mc ms free) (cw : CallB R s args own index y bytes maxL ret ws rm mc ms n ∧ (Cond.static y).before args s = true) (hp : PreS s H Pc As)
    (hg : g.method = m) (hn : As.length = n) (hsize : g.locals.size = nL) (hstack : g.stack = As.reverse ++ rest) (hW : 2 * g.monitorRoom + (rest.map fun v => v.category).sum ≤ 8) (hdg : decode cc g.pc = .ok (.invokestatic index, 3)) (hf : cells + mc ≤ R.cells ∧ slots + ms ≤ R.slots) :
    vx_Run p l e R s m args below meth c H locs cells slots mc ms g rest (Qc As.toArray) XC free := by
  have hK : vx_Back l R p e below s args y 3 8 (PreOf R mc ms Pc) (PostOf Qc mc ms free) (vx_Post XC mc ms free) := vx_callBack cw.1 hM hp.1
  obtain ⟨⟨-, -, -, -, -, -, hcode, hini, hy, hlen, hl⟩, hstt⟩ := cw
  obtain ⟨hx, hb, hml, ho, -⟩ := S
  intro T hT X
  rcases vx_callS X hx (bytes := bytes) (maxL := maxL) (ret := ret) ho hl hstt hini hcode hy hK hg (hsize.trans hml.symm) (argsL := As) (rest := rest) (fun sig h => hn.trans (hlen sig h)) hstack hW (by rw [hb]; exact hdg)
    (fun vm₁ hW₁ => ⟨hf.1, hf.2, hp.2 (T.setVm vm₁) hT hW₁⟩) with ⟨v, vm₁, ⟨U', l2, c2, s2⟩, hW₁, X', ⟨g', mk, t, L, e1, e2, hq, h1, hL, h2, h3⟩, st⟩ | ⟨q, vm₁, ⟨U', l2, c2, s2⟩, hW₁, X', ⟨g', mk, t, L, E, ce, e1, e2, hq, hce, hcv, hcl, h1, hL, h2, h3⟩, st⟩
  · dsimp only [Pt.U, Pt.locs, Pt.cells, Pt.slots] at X' e1 e2 h1 h2 h3 st
    subst h1; subst h2; subst h3
    exact Or.inl ⟨v, (T.setVm vm₁).calling g' mk As.toArray, t, U', L, hT, X', hL, e1, e2, hq, st⟩
  · dsimp only [Pt.U, Pt.locs, Pt.cells, Pt.slots] at X' e1 e2 h1 h2 h3 st hcl
    subst h1; subst h2; subst h3
    exact Or.inr ⟨q, (T.setVm vm₁).calling g' mk As.toArray, t, U', L, E, ce, hT, X', hL, e1, e2, hq, hce, hcv, vx_cls hW₁ hcl, st⟩
end Runs
section Rows
variable {p : Program} {l : Launch} {e : Env} {R : Room} {s : State} {m : MethodId} {args : Array Value} {below : List Frame} {meth : Method} {c : Code} {H : Heap} {locs : List Loc} {cells slots : Nat} {Q : State → Prop}
variable {mc ms : Nat} {free : Addr → Prop} {A0 A1 : Nat → Prop} {H0 : Heap} {a : Array Value} {pc : Nat} {ls : Array Slot} {st0 rest : List Value}
theorem vx_keep {st₀ t T' : State} {L : List Loc} (h0 : st₀.heap = H) (e1 : T'.heap = t.heap) (hS : va_S A0 H0 H locs) (hA : ∀ q, q < H.size → A1 q → A0 q) (hf : ∀ q, free q → A0 q) (hL : ∀ q ∈ L, free q.base) (hF : va_F A1 st₀ t) :
    H.size ≤ T'.heap.size ∧ (∀ q : Nat, q < H.size → ¬ A1 q → T'.heap[q]? = H[q]?) ∧ va_S A0 H0 T'.heap (locs ++ L) := by
  obtain ⟨hz, hk⟩ := hF
  rw [h0] at hz hk
  exact ⟨by rw [e1]; exact hz, fun q h1 h2 => by rw [e1]; exact hk q h1 h2,
    ⟨Nat.le_trans hS.1 (by rw [e1]; exact hz), fun q h1 h2 => by rw [e1, hk q (Nat.lt_of_lt_of_le h1 hS.1) (fun z => h2 (hA q (Nat.lt_of_lt_of_le h1 hS.1) z))]; exact hS.2.1 q h1 h2, fun q hq => by
      rcases List.mem_append.mp hq with h | h
      · exact hS.2.2 q h
      · exact hf _ (hL q h)⟩⟩
theorem vx_calli {S SX : Type} {post : Int32 → S → Prop} {px : SX → Prop} {B : S → State → Prop} {BX : String → SX → State → Prop} {AX : Nat → Prop} (hr : vx_Run p l e R s m args below meth c H locs cells slots mc ms (F0 m pc ls st0) rest (va_Qi post B A1 a) (vx_X px BX AX) free) (hS : va_S A0 H0 H locs) (hA : ∀ q, q < H.size → A1 q → A0 q) (hf : ∀ q, free q → A0 q) (hAX : ∀ q, q < H.size → AX q → A0 q)
    (kx : ∀ (E : String) (ce : Cell) (q9 : Addr) (u : SX) (t : State) (H1 : Heap) (locs1 : List Loc), t.heap = H1 → s.vm.Alike t.vm → px u → BX E u t → H.size ≤ H1.size → (∀ q : Nat, q < H.size → ¬ AX q → H1[q]? = H[q]?) → va_S A0 H0 H1 locs1 → H1[q9]? = some ce → ce.vm = .none → s.vm.findClass E = some ce.cls → vx_W p l e R s m args below meth c H1 locs1 (cells + mc) (slots + ms) Q (F0 m pc ls rest) q9)
    (kk : ∀ (r : Int32) (u : S) (t : State) (H1 : Heap) (locs1 : List Loc), t.heap = H1 → s.vm.Alike t.vm → post r u → B u t → H.size ≤ H1.size → (∀ q : Nat, q < H.size → ¬ A1 q → H1[q]? = H[q]?) → va_S A0 H0 H1 locs1 → W p l e R s m args below meth c H1 locs1 (cells + mc) (slots + ms) Q (F0 m (pc + 3) ls (.int r :: rest))) : W p l e R s m args below meth c H locs cells slots Q (F0 m pc ls st0) := by
  intro T hT X
  rcases hr T hT X with ⟨v, st₀, t, T', L, h0, X', hL, e1, e2, ⟨⟨r, u, hv, hp, hb⟩, hF⟩, st⟩ | ⟨q, st₀, t, T', L, E, ce, h0, X', hL, e1, e2, ⟨u, hp, hb, hF⟩, hce, hcv, hcl, st⟩
  · cases hv
    obtain ⟨k1, k2, k3⟩ := vx_keep h0 e1 hS hA hf hL hF
    obtain ⟨t2, a1, b1⟩ := kk r u t T'.heap (locs ++ L) e1.symm (by rw [← e2]; exact X'.warmed.alike) hp hb k1 k2 k3 T' rfl X'
    exact ⟨t2, st t2 a1, b1⟩
  · obtain ⟨k1, k2, k3⟩ := vx_keep h0 e1 hS hAX hf hL hF
    obtain ⟨t2, a1, b1⟩ := kx E ce q u t T'.heap (locs ++ L) e1.symm (by rw [← e2]; exact X'.warmed.alike) hp hb k1 k2 k3 (by rw [e1]; exact hce) hcv hcl T' rfl X'
    exact ⟨t2, st.trans a1, b1⟩
theorem vx_calll {S SX : Type} {post : Int64 → S → Prop} {px : SX → Prop} {B : S → State → Prop} {BX : String → SX → State → Prop} {AX : Nat → Prop} (hr : vx_Run p l e R s m args below meth c H locs cells slots mc ms (F0 m pc ls st0) rest (va_Ql post B A1 a) (vx_X px BX AX) free) (hS : va_S A0 H0 H locs) (hA : ∀ q, q < H.size → A1 q → A0 q) (hf : ∀ q, free q → A0 q) (hAX : ∀ q, q < H.size → AX q → A0 q)
    (kx : ∀ (E : String) (ce : Cell) (q9 : Addr) (u : SX) (t : State) (H1 : Heap) (locs1 : List Loc), t.heap = H1 → s.vm.Alike t.vm → px u → BX E u t → H.size ≤ H1.size → (∀ q : Nat, q < H.size → ¬ AX q → H1[q]? = H[q]?) → va_S A0 H0 H1 locs1 → H1[q9]? = some ce → ce.vm = .none → s.vm.findClass E = some ce.cls → vx_W p l e R s m args below meth c H1 locs1 (cells + mc) (slots + ms) Q (F0 m pc ls rest) q9)
    (kk : ∀ (r : Int64) (u : S) (t : State) (H1 : Heap) (locs1 : List Loc), t.heap = H1 → s.vm.Alike t.vm → post r u → B u t → H.size ≤ H1.size → (∀ q : Nat, q < H.size → ¬ A1 q → H1[q]? = H[q]?) → va_S A0 H0 H1 locs1 → W p l e R s m args below meth c H1 locs1 (cells + mc) (slots + ms) Q (F0 m (pc + 3) ls (.long r :: rest))) : W p l e R s m args below meth c H locs cells slots Q (F0 m pc ls st0) := by
  intro T hT X
  rcases hr T hT X with ⟨v, st₀, t, T', L, h0, X', hL, e1, e2, ⟨⟨r, u, hv, hp, hb⟩, hF⟩, st⟩ | ⟨q, st₀, t, T', L, E, ce, h0, X', hL, e1, e2, ⟨u, hp, hb, hF⟩, hce, hcv, hcl, st⟩
  · cases hv
    obtain ⟨k1, k2, k3⟩ := vx_keep h0 e1 hS hA hf hL hF
    obtain ⟨t2, a1, b1⟩ := kk r u t T'.heap (locs ++ L) e1.symm (by rw [← e2]; exact X'.warmed.alike) hp hb k1 k2 k3 T' rfl X'
    exact ⟨t2, st t2 a1, b1⟩
  · obtain ⟨k1, k2, k3⟩ := vx_keep h0 e1 hS hAX hf hL hF
    obtain ⟨t2, a1, b1⟩ := kx E ce q u t T'.heap (locs ++ L) e1.symm (by rw [← e2]; exact X'.warmed.alike) hp hb k1 k2 k3 (by rw [e1]; exact hce) hcv hcl T' rfl X'
    exact ⟨t2, st.trans a1, b1⟩
theorem vx_callf {S SX : Type} {post : UInt32 → S → Prop} {px : SX → Prop} {B : S → State → Prop} {BX : String → SX → State → Prop} {AX : Nat → Prop} (hr : vx_Run p l e R s m args below meth c H locs cells slots mc ms (F0 m pc ls st0) rest (va_Qf post B A1 a) (vx_X px BX AX) free) (hS : va_S A0 H0 H locs) (hA : ∀ q, q < H.size → A1 q → A0 q) (hf : ∀ q, free q → A0 q) (hAX : ∀ q, q < H.size → AX q → A0 q)
    (kx : ∀ (E : String) (ce : Cell) (q9 : Addr) (u : SX) (t : State) (H1 : Heap) (locs1 : List Loc), t.heap = H1 → s.vm.Alike t.vm → px u → BX E u t → H.size ≤ H1.size → (∀ q : Nat, q < H.size → ¬ AX q → H1[q]? = H[q]?) → va_S A0 H0 H1 locs1 → H1[q9]? = some ce → ce.vm = .none → s.vm.findClass E = some ce.cls → vx_W p l e R s m args below meth c H1 locs1 (cells + mc) (slots + ms) Q (F0 m pc ls rest) q9)
    (kk : ∀ (r : UInt32) (u : S) (t : State) (H1 : Heap) (locs1 : List Loc), t.heap = H1 → s.vm.Alike t.vm → post r u → B u t → H.size ≤ H1.size → (∀ q : Nat, q < H.size → ¬ A1 q → H1[q]? = H[q]?) → va_S A0 H0 H1 locs1 → W p l e R s m args below meth c H1 locs1 (cells + mc) (slots + ms) Q (F0 m (pc + 3) ls (.float r :: rest))) : W p l e R s m args below meth c H locs cells slots Q (F0 m pc ls st0) := by
  intro T hT X
  rcases hr T hT X with ⟨v, st₀, t, T', L, h0, X', hL, e1, e2, ⟨⟨r, u, hv, hp, hb⟩, hF⟩, st⟩ | ⟨q, st₀, t, T', L, E, ce, h0, X', hL, e1, e2, ⟨u, hp, hb, hF⟩, hce, hcv, hcl, st⟩
  · cases hv
    obtain ⟨k1, k2, k3⟩ := vx_keep h0 e1 hS hA hf hL hF
    obtain ⟨t2, a1, b1⟩ := kk r u t T'.heap (locs ++ L) e1.symm (by rw [← e2]; exact X'.warmed.alike) hp hb k1 k2 k3 T' rfl X'
    exact ⟨t2, st t2 a1, b1⟩
  · obtain ⟨k1, k2, k3⟩ := vx_keep h0 e1 hS hAX hf hL hF
    obtain ⟨t2, a1, b1⟩ := kx E ce q u t T'.heap (locs ++ L) e1.symm (by rw [← e2]; exact X'.warmed.alike) hp hb k1 k2 k3 (by rw [e1]; exact hce) hcv hcl T' rfl X'
    exact ⟨t2, st.trans a1, b1⟩
theorem vx_calld {S SX : Type} {post : UInt64 → S → Prop} {px : SX → Prop} {B : S → State → Prop} {BX : String → SX → State → Prop} {AX : Nat → Prop} (hr : vx_Run p l e R s m args below meth c H locs cells slots mc ms (F0 m pc ls st0) rest (va_Qd post B A1 a) (vx_X px BX AX) free) (hS : va_S A0 H0 H locs) (hA : ∀ q, q < H.size → A1 q → A0 q) (hf : ∀ q, free q → A0 q) (hAX : ∀ q, q < H.size → AX q → A0 q)
    (kx : ∀ (E : String) (ce : Cell) (q9 : Addr) (u : SX) (t : State) (H1 : Heap) (locs1 : List Loc), t.heap = H1 → s.vm.Alike t.vm → px u → BX E u t → H.size ≤ H1.size → (∀ q : Nat, q < H.size → ¬ AX q → H1[q]? = H[q]?) → va_S A0 H0 H1 locs1 → H1[q9]? = some ce → ce.vm = .none → s.vm.findClass E = some ce.cls → vx_W p l e R s m args below meth c H1 locs1 (cells + mc) (slots + ms) Q (F0 m pc ls rest) q9)
    (kk : ∀ (r : UInt64) (u : S) (t : State) (H1 : Heap) (locs1 : List Loc), t.heap = H1 → s.vm.Alike t.vm → post r u → B u t → H.size ≤ H1.size → (∀ q : Nat, q < H.size → ¬ A1 q → H1[q]? = H[q]?) → va_S A0 H0 H1 locs1 → W p l e R s m args below meth c H1 locs1 (cells + mc) (slots + ms) Q (F0 m (pc + 3) ls (.double r :: rest))) : W p l e R s m args below meth c H locs cells slots Q (F0 m pc ls st0) := by
  intro T hT X
  rcases hr T hT X with ⟨v, st₀, t, T', L, h0, X', hL, e1, e2, ⟨⟨r, u, hv, hp, hb⟩, hF⟩, st⟩ | ⟨q, st₀, t, T', L, E, ce, h0, X', hL, e1, e2, ⟨u, hp, hb, hF⟩, hce, hcv, hcl, st⟩
  · cases hv
    obtain ⟨k1, k2, k3⟩ := vx_keep h0 e1 hS hA hf hL hF
    obtain ⟨t2, a1, b1⟩ := kk r u t T'.heap (locs ++ L) e1.symm (by rw [← e2]; exact X'.warmed.alike) hp hb k1 k2 k3 T' rfl X'
    exact ⟨t2, st t2 a1, b1⟩
  · obtain ⟨k1, k2, k3⟩ := vx_keep h0 e1 hS hAX hf hL hF
    obtain ⟨t2, a1, b1⟩ := kx E ce q u t T'.heap (locs ++ L) e1.symm (by rw [← e2]; exact X'.warmed.alike) hp hb k1 k2 k3 (by rw [e1]; exact hce) hcv hcl T' rfl X'
    exact ⟨t2, st.trans a1, b1⟩
theorem vx_callv {S SX : Type} {post : S → Prop} {px : SX → Prop} {B : S → State → Prop} {BX : String → SX → State → Prop} {AX : Nat → Prop} (hr : vx_Run p l e R s m args below meth c H locs cells slots mc ms (F0 m pc ls st0) rest (va_Qv post B A1 a) (vx_X px BX AX) free) (hS : va_S A0 H0 H locs) (hA : ∀ q, q < H.size → A1 q → A0 q) (hf : ∀ q, free q → A0 q) (hAX : ∀ q, q < H.size → AX q → A0 q)
    (kx : ∀ (E : String) (ce : Cell) (q9 : Addr) (u : SX) (t : State) (H1 : Heap) (locs1 : List Loc), t.heap = H1 → s.vm.Alike t.vm → px u → BX E u t → H.size ≤ H1.size → (∀ q : Nat, q < H.size → ¬ AX q → H1[q]? = H[q]?) → va_S A0 H0 H1 locs1 → H1[q9]? = some ce → ce.vm = .none → s.vm.findClass E = some ce.cls → vx_W p l e R s m args below meth c H1 locs1 (cells + mc) (slots + ms) Q (F0 m pc ls rest) q9)
    (kk : ∀ (u : S) (t : State) (H1 : Heap) (locs1 : List Loc), t.heap = H1 → s.vm.Alike t.vm → post u → B u t → H.size ≤ H1.size → (∀ q : Nat, q < H.size → ¬ A1 q → H1[q]? = H[q]?) → va_S A0 H0 H1 locs1 → W p l e R s m args below meth c H1 locs1 (cells + mc) (slots + ms) Q (F0 m (pc + 3) ls (rest))) : W p l e R s m args below meth c H locs cells slots Q (F0 m pc ls st0) := by
  intro T hT X
  rcases hr T hT X with ⟨v, st₀, t, T', L, h0, X', hL, e1, e2, ⟨⟨u, hv, hp, hb⟩, hF⟩, st⟩ | ⟨q, st₀, t, T', L, E, ce, h0, X', hL, e1, e2, ⟨u, hp, hb, hF⟩, hce, hcv, hcl, st⟩
  · cases hv
    obtain ⟨k1, k2, k3⟩ := vx_keep h0 e1 hS hA hf hL hF
    obtain ⟨t2, a1, b1⟩ := kk u t T'.heap (locs ++ L) e1.symm (by rw [← e2]; exact X'.warmed.alike) hp hb k1 k2 k3 T' rfl X'
    exact ⟨t2, st t2 a1, b1⟩
  · obtain ⟨k1, k2, k3⟩ := vx_keep h0 e1 hS hAX hf hL hF
    obtain ⟨t2, a1, b1⟩ := kx E ce q u t T'.heap (locs ++ L) e1.symm (by rw [← e2]; exact X'.warmed.alike) hp hb k1 k2 k3 (by rw [e1]; exact hce) hcv hcl T' rfl X'
    exact ⟨t2, st.trans a1, b1⟩
/-- caught by the row x of this method's table; the rows ahead don't take it -/
theorem vx_catch {own name : String} {E : String} {ce : Cell} {q : Addr} (hown : s.vm.findClass own = some m.cls) (pre : List ExceptionTableEntry) (x : ExceptionTableEntry) (suf : List ExceptionTableEntry) (hsplit : c.exceptionTable.toList = pre ++ x :: suf)
    (hpass : ∀ z ∈ pre, covers z pc = false ∨ (z.catchType ≠ 0 ∧ ∃ nm : String, (Cond.classLink own z.catchType nm).before args s = true ∧ va_Nc E nm s)) (hx : covers x pc = true) (h0 : x.catchType ≠ 0)
    (hlink : (Cond.classLink own x.catchType name).before args s = true) (hcast : (Cond.castable E name).before args s = true) (hcell : H[q]? = some ce) (hv : ce.vm = .none) (hcl : s.vm.findClass E = some ce.cls)
    (kk : W p l e R s m args below meth c H locs cells slots Q (F0 m x.handlerPc ls [.ref q])) : vx_W p l e R s m args below meth c H locs cells slots Q (F0 m pc ls rest) q := by
  intro T hT X
  have hpl : e.platform.magicAccessors = ({} : Platform).magicAccessors := by rw [X.admits.platform]
  obtain ⟨c3, c4, hc3, hc4, hasg⟩ := Cond.castable_spec hcast
  cases Option.some.inj (hc3.symm.trans hcl)
  obtain ⟨c5, hc5, hcl5⟩ := Cond.classLink_spec hown hlink e.platform hpl
  cases Option.some.inj (hc4.symm.trans hc5)
  obtain ⟨vm', X', st⟩ := X.thenCaughtThrough q (g := F0 m pc ls rest) rfl (Steps.refl _) (by rw [hT]; exact hcell) (by rw [hv]; rfl) (by obtain ⟨k9, h9, -⟩ := Vm.findClass_spec hcl; exact ⟨k9, h9⟩) pre x suf hsplit
    (fun z hz => by
      rcases hpass z hz with h | ⟨hz0, nm, hl1, hn1⟩
      · exact Or.inl h
      · obtain ⟨c6, hc6, hcl6⟩ := Cond.classLink_spec hown hl1 e.platform hpl
        obtain ⟨a8, b8, h1, h2, h3⟩ := hn1
        cases Option.some.inj (h1.symm.trans hcl)
        cases Option.some.inj (h2.symm.trans hc6)
        exact Or.inr ⟨hz0, _, hcl6, h3⟩) hx (Or.inr ⟨h0, c4, hcl5, hasg⟩)
  obtain ⟨t, a1, b1⟩ := kk (T.setVm vm') hT X'
  exact ⟨t, st.trans a1, b1⟩
end Rows
section Ends
variable {p : Program} {l : Launch} {e : Env} {R : Room} {s : State} {m : MethodId} {args : Array Value} {below : List Frame} {meth : Method} {c : Code} {H : Heap} {locs : List Loc} {cells slots : Nat} {Q : State → Prop}
variable {mc ms : Nat} {free : Addr → Prop} {A0 A1 : Nat → Prop} {H0 : Heap} {a : Array Value} {ls : Array Slot} {st0 rest : List Value}
variable {Qc : Array Value → State → Outcome → State → Prop} {XC : String → State → State → Prop}
/-- what a body that may throw owes at its end -/
def vx_MQ (below : List Frame) (Qc : Array Value → State → Outcome → State → Prop) (XC : String → State → State → Prop) (a : Array Value) (s : State) (mc ms : Nat) (free : Addr → Prop) : State → Prop := fun t =>
  ∃ o, t.status = .running ∧ Ended t below o ∧ vx_Q Qc XC mc ms free a s o t
theorem vx_ret {g : JFrame} {mc ms : Nat} (k : W p l e R s m args below meth c H locs cells slots (MQ below Qc args s mc ms free) g) : W p l e R s m args below meth c H locs cells slots (vx_MQ below Qc XC args s mc ms free) g := by
  intro T hT X
  obtain ⟨t, a1, o, b1, b2, b3, b4⟩ := k T hT X
  exact ⟨t, a1, o, b1, b2, Or.inl ⟨b3, b4⟩⟩
/-- not caught here: it goes on to the caller -/
theorem vx_widen {g : JFrame} {q : Addr} {k n : Nat} (h1 : cells ≤ k) (h2 : slots ≤ n) (kk : vx_W p l e R s m args below meth c H locs k n Q g q) : vx_W p l e R s m args below meth c H locs cells slots Q g q := fun T hT X => kk T hT (stand_widen X h1 h2)
theorem vx_out {pc : Nat} {E : String} {ce : Cell} {q : Addr} {mc ms : Nat} (hout : ∀ x ∈ c.exceptionTable.toList, covers x pc = false) (hlocks : meth.locks = false) (hcell : H[q]? = some ce) (hv : ce.vm = .none) (hcl : s.vm.findClass E = some ce.cls)
    (hx : ∀ t : State, t.heap = H → s.vm.Alike t.vm → XC E s t) (hf : ∀ z ∈ locs, free z.base) (hc : cells ≤ mc) (hs : slots ≤ ms) :
    vx_W p l e R s m args below meth c H locs cells slots (vx_MQ below Qc XC args s mc ms free) (F0 m pc ls rest) q := by
  intro T hT X
  obtain ⟨st1, hrun, hend, hW, hsm⟩ := X.leaveThrown q (g := F0 m pc ls rest) rfl rfl rfl hout hlocks
  have hcell9 : (T.setFrames (.throwing q :: below)).heap[q]? = some ce := by
    show T.heap[q]? = some ce
    rw [hT]; exact hcell
  exact ⟨_, st1, .threw q, hrun, hend, Or.inr ⟨q, rfl, E, ce, locs, hx _ hT hW.alike, hcell9, hv, hcl, hW, hsm.mono hc hs, hf⟩⟩
theorem vx_frame {U : State} {k n : Nat} (h : s.sameButNew ({ U with vm := s.vm } : State) locs k n) : s.heap.size ≤ U.heap.size ∧ ∀ q : Nat, q < s.heap.size → (∀ z ∈ locs, z.base ≠ q) → U.heap[q]? = s.heap[q]? := by
  obtain ⟨-, h2, -, -, -, h6⟩ := h
  refine ⟨h2, fun q hq hz => ?_⟩
  obtain ⟨c9, e1, e2, e3, e4⟩ := h6 q _ (Array.getElem?_eq_getElem hq)
  have hs : c9.slots = (s.heap[q]).slots := Array.ext_getElem? fun i => e4 i fun hm => hz _ hm rfl
  have h9 : c9 = s.heap[q] := by
    rw [hs] at e2
    exact e2
  have e5 : U.heap[q]? = some c9 := e1
  rw [e5, h9, Array.getElem?_eq_getElem hq]
/-- the words of a throw but the four that speak of the heap -/
def vx_no (w : Cond) : Bool := decide (w ≠ .isRef (.static Bundle.tN "UNASSIGNED_STACK" Bundle.steD)) && decide (w ≠ .isRef (.static Bundle.tN "SUPPRESSED_SENTINEL" Bundle.listD)) && decide (w ≠ .laysStatic Bundle.tN "UNASSIGNED_STACK" Bundle.steD) && decide (w ≠ .laysStatic Bundle.tN "SUPPRESSED_SENTINEL" Bundle.listD)
def vx_at0 (own : String) (ic : Nat) (X : String) (names : List String) : List Cond := (Bundle.ownAtoms0 own ic X names).filter vx_no
def vx_atS (own : String) (ic : Nat) (X : String) (names : List String) : List Cond := (Bundle.ownAtoms own ic X names).filter vx_no
/-- a word that the tables alone decide, or a good one -/
def vx_ot (w : Cond) : Bool := w.onTables || goodWord w
theorem vx_ot_at {args a' : Array Value} {s U : State} {w : Cond} (hW : s.WarmedH U.vm) (hvm : s.vm = U.vm) (hg : vx_ot w = true) (h : w.before args s = true) : w.before a' U = true := by
  simp only [vx_ot, Bool.or_eq_true] at hg
  rcases hg with hg | hg
  · exact va_tabs hg hvm h
  · exact word_at hW (good_of_word hg) h
/-- a list's words: the good ones out of the method's own list, the others by premises of their own -/
theorem vx_hat {args : Array Value} {s : State} {L B : List Cond} (h1 : ∀ w ∈ L.filter goodWord, w.before args s = true) (h2 : ∀ w ∈ L.filter (fun w => !goodWord w), w ∈ B) (h3 : ∀ w ∈ B, w.before args s = true) : ∀ w ∈ L, w.before args s = true := by
  intro w hw
  by_cases g : goodWord w = true
  · exact h1 w (List.mem_filter.mpr ⟨hw, g⟩)
  · refine h3 w (h2 w (List.mem_filter.mpr ⟨hw, ?_⟩))
    show (!goodWord w) = true
    cases hgw : goodWord w
    · rfl
    · exact absurd hgw g
theorem vx_c {args : Array Value} {s : State} {w : Cond} {B : List Cond} (h : w.before args s = true) (t : ∀ w ∈ B, w.before args s = true) : ∀ w' ∈ w :: B, w'.before args s = true := fun w' h' => (List.mem_cons.mp h').elim (fun e => by rw [e]; exact h) (t w')
theorem vx_n {args : Array Value} {s : State} : ∀ w ∈ ([] : List Cond), w.before args s = true := fun _ h => nomatch h
theorem vx_own {args : Array Value} {s : State} {L : List Cond} (h1 : ∀ w ∈ L.filter vx_no, w.before args s = true)
    (hU : (Cond.isRef (.static Bundle.tN "UNASSIGNED_STACK" Bundle.steD)).before args s = true) (hN : (Cond.isRef (.static Bundle.tN "SUPPRESSED_SENTINEL" Bundle.listD)).before args s = true)
    (lU : (Cond.laysStatic Bundle.tN "UNASSIGNED_STACK" Bundle.steD).before args s = true) (lN : (Cond.laysStatic Bundle.tN "SUPPRESSED_SENTINEL" Bundle.listD).before args s = true) : ∀ w ∈ L, w.before args s = true := by
  intro w hw
  by_cases e1 : w = .isRef (.static Bundle.tN "UNASSIGNED_STACK" Bundle.steD)
  · rw [e1]; exact hU
  · by_cases e2 : w = .isRef (.static Bundle.tN "SUPPRESSED_SENTINEL" Bundle.listD)
    · rw [e2]; exact hN
    · by_cases e3 : w = .laysStatic Bundle.tN "UNASSIGNED_STACK" Bundle.steD
      · rw [e3]; exact lU
      · by_cases e4 : w = .laysStatic Bundle.tN "SUPPRESSED_SENTINEL" Bundle.listD
        · rw [e4]; exact lN
        · exact h1 w (List.mem_filter.mpr ⟨hw, by unfold vx_no; rw [decide_eq_true e1, decide_eq_true e2, decide_eq_true e3, decide_eq_true e4]; rfl⟩)
/-- where a static field lies, its class's statics cell in H -/
def vx_L (C n d : String) (A : Nat → Prop) (U : State) (H : Heap) : Prop := ∃ (c : ClassId) (k : Class) (i : Nat) (f : Field) (a : Nat) (cell : Cell), U.vm.findClass C = some c ∧ U.fieldFound? C n d = some (c, k, i, f) ∧ f.isStatic = true ∧ k.statics = some a ∧ H[a]? = some cell ∧ cell.vm.isStatics = true ∧ cell.cls = c ∧ f.slot < cell.slots.size ∧ k.staticTypes[f.slot]? = some f.type ∧ ¬ A a
theorem vx_L.moved {C n d : String} {A : Nat → Prop} {u U : State} {H : Heap} (hvm : u.vm.Alike U.vm) (h : vx_L C n d A u H) : vx_L C n d A U H := by
  obtain ⟨c, k, i, f, a, cell, h1, h2, h3, h4, h5, h6, h7, h8, h9, h10⟩ := h
  obtain ⟨k', hi', he⟩ := State.fieldFound?_setVm hvm h2
  exact ⟨c, k', i, f, a, cell, by rw [hvm.findClass]; exact h1, hi', h3, by rw [he]; exact h4, h5, h6, h7, h8, by rw [he]; exact h9, h10⟩
theorem vx_L.kept {C n d : String} {A : Nat → Prop} {U : State} {H H1 : Heap} (h : vx_L C n d A U H) (hq : ∀ a : Nat, a < H.size → ¬ A a → H1[a]? = H[a]?) : vx_L C n d A U H1 := by
  obtain ⟨c, k, i, f, a, cell, h1, h2, h3, h4, h5, h6, h7, h8, h9, h10⟩ := h
  exact ⟨c, k, i, f, a, cell, h1, h2, h3, h4, by rw [hq a (Array.getElem?_eq_some_iff.mp h5).1 h10]; exact h5, h6, h7, h8, h9, h10⟩
theorem vx_L.narrow {C n d : String} {A B : Nat → Prop} {U : State} {H : Heap} (h : vx_L C n d A U H) (hAB : ∀ q, B q → A q) : vx_L C n d B U H := by
  obtain ⟨c, k, i, f, a, cell, h1, h2, h3, h4, h5, h6, h7, h8, h9, h10⟩ := h
  exact ⟨c, k, i, f, a, cell, h1, h2, h3, h4, h5, h6, h7, h8, h9, fun z => h10 (hAB _ z)⟩
theorem vx_L.word {C n d : String} {A : Nat → Prop} {s : State} {args : Array Value} (h : vx_L C n d A s s.heap) : (Cond.laysStatic C n d).before args s = true := by
  obtain ⟨c, k, i, f, a, cell, h1, h2, h3, h4, h5, h6, h7, h8, h9, -⟩ := h
  show (Cond.laysStatic C n d).holds args s none s [] = true
  exact Cond.laysStatic_of h1 h2 h3 h4 h5 h6 h7 h8 h9
/-- .. and what it holds: null or some reference -/
def vx_Zq (C n d : String) (A : Nat → Prop) (U : State) (H : Heap) : Prop := va_Zq C n d A U H ∧ vx_L C n d A U H
theorem vx_Zq.moved {C n d : String} {A : Nat → Prop} {u U : State} {H : Heap} (hvm : u.vm.Alike U.vm) (h : vx_Zq C n d A u H) : vx_Zq C n d A U H := ⟨va_Zq.moved hvm h.1, vx_L.moved hvm h.2⟩
theorem vx_Zq.kept {C n d : String} {A : Nat → Prop} {U : State} {H H1 : Heap} (h : vx_Zq C n d A U H) (hq : ∀ a : Nat, a < H.size → ¬ A a → H1[a]? = H[a]?) : vx_Zq C n d A U H1 := ⟨va_Zq.kept h.1 hq, vx_L.kept h.2 hq⟩
theorem vx_Zq.narrow {C n d : String} {A B : Nat → Prop} {U : State} {H : Heap} (h : vx_Zq C n d A U H) (hAB : ∀ q, B q → A q) : vx_Zq C n d B U H := ⟨va_Zq.narrow h.1 hAB, vx_L.narrow h.2 hAB⟩
theorem vx_Zqof {args : Array Value} {s : State} {C n d : String} {A : Nat → Prop} (hl : (Cond.laysStatic C n d).before args s = true) (hini : (Cond.initialized C).before args s = true) (h : (Cond.isRef (.static C n d)).before args s = true) (hA : ∀ a : Nat, a < s.heap.size → ¬ A a) : vx_Zq C n d A s s.heap := by
  refine ⟨va_Zqof hl hini h hA, ?_⟩
  obtain ⟨c, k, i, f, a, cell, h1, h2, h3, h4, h5, h6, h7, h8, h9⟩ := Cond.laysStatic_spec hl
  exact ⟨c, k, i, f, a, cell, h1, h2, h3, h4, h5, h6, h7, h8, h9, hA a (Array.getElem?_eq_some_iff.mp h5).1⟩
theorem vx_isRef {C n d : String} {v : Value} {A : Nat → Prop} {s : State} {args : Array Value} (h : va_Z C n d v A s s.heap) (hv : v.isRef = true) : (Cond.isRef (.static C n d)).before args s = true := by
  obtain ⟨cf, kf, fi, f, a, cell, h1, h2, h3, h4, h5, h6, h7, -⟩ := h
  have he : (Term.static C n d).eval args s none [] s = some v := by
    simp [Term.eval, State.fieldNamed?, h1, h2, h4, h5, h6, h7]
  simp only [Cond.before, Cond.holds, Cond.value, he]
  cases v <;> simp_all [Value.isRef]
theorem vx_isRefq {C n d : String} {A : Nat → Prop} {s : State} {args : Array Value} (h : va_Zq C n d A s s.heap) : (Cond.isRef (.static C n d)).before args s = true := by
  rcases h with h | ⟨t, h⟩
  · exact vx_isRef h rfl
  · exact vx_isRef h rfl
/-- the same frame, seen from here: as if the method were called anew in this heap -/
theorem vx_rebase {T : State} (X : Stand p l e R s m args below meth c T locs cells slots) {R' : Room} (hf : R'.frames ≤ R.frames) (hl : R'.locals ≤ R.locals) (hc : cells + R'.cells ≤ R.cells) (hs : slots + R'.slots ≤ R.slots) :
    Stand p l e R' ((T.setVm s.vm).setFrames (.invoking m args :: below)) m args below meth c T [] 0 0 := by
  have htop : (T.setVm s.vm).topJava?.isSome := X.here.top
  have hF : ((T.setVm s.vm).setFrames (.invoking m args :: below)).frames = .invoking m args :: below := State.frames_setFrames _ (State.cur_lt_of_top htop)
  obtain ⟨g₀, hg0⟩ := Option.isSome_iff_exists.mp htop
  obtain ⟨r, hr⟩ := State.topJava?_eq_some.mp hg0
  have hl9 : e.platform.stackLimits (T.setVm s.vm).me = e.platform.stackLimits s.me := X.limits
  have hb9 : (T.setVm s.vm).me.stackBytes = s.me.stackBytes := X.bytes
  refine ⟨X.admits, X.cas, X.clock, hF, ?_, X.hears, X.method, X.code, X.here, X.tail, X.warmed, ?_, ?_, ?_⟩
  · have h := X.room
    have hU : ((T.setVm s.vm).setFrames (.invoking m args :: below)).localsInUse = s.localsInUse := by
      rw [State.localsInUse_invoking hF (meth := meth) (c := c) X.method X.code, State.localsInUse_invoking X.frames X.method X.code]
    simp only [State.hasRoom, Bool.and_eq_true, decide_eq_true_eq] at h ⊢
    obtain ⟨⟨⟨⟨h1, h2, h3, h4, h5, h6⟩, h7⟩, h8⟩, h9⟩ := h
    rw [X.frames, List.length_cons] at h2 h3
    have q1 := X.heapSize
    have q2 := X.used
    simp only [hF, hU, List.length_cons, State.stackLimits_setFrames, State.stackBytes_setFrames, hl9, hb9]
    refine ⟨⟨⟨⟨by omega, by omega, by omega, by omega, by omega, h6⟩, ?_⟩, ?_⟩, X.book⟩
    · show T.heap.size + R'.cells ≤ e.platform.maxCells
      omega
    · show T.slotsUsed + R'.slots ≤ e.platform.maxSlots
      omega
  · rw [State.stackLimits_setFrames]; rfl
  · rw [State.stackBytes_setFrames]; rfl
  · refine ⟨?_, Nat.le_refl _, Nat.le_refl _, ?_, ?_, fun a c9 h9 => ⟨c9, h9, rfl, rfl, fun _ _ => rfl⟩⟩
    · obtain ⟨t, ht, -⟩ := State.frames_cons hr
      show T.setVm s.vm = { ((T.setVm s.vm).setFrames (.invoking m args :: below)).setFrames (T.setVm s.vm).frames with heap := T.heap, slotsUsed := T.slotsUsed }
      rw [State.setFrames_setFrames, State.setFrames_self ht]
      rfl
    · show T.slotsUsed = T.slotsUsed + ((T.heap.toList.drop T.heap.size).map (·.slots.size)).sum
      rw [List.drop_eq_nil_of_le (Nat.le_of_eq Array.length_toList)]
      rfl
    · show ((T.heap.toList.drop T.heap.size).map (·.slots.size)).sum ≤ 0
      rw [List.drop_eq_nil_of_le (Nat.le_of_eq Array.length_toList)]
      exact Nat.le_refl _
/-- 'throw new E()': new; dup; invokespecial; athrow -/
theorem vx_throw0 {cc : ByteArray} {pc : Nat} (hexec : p.tables.exec = Jvm.exec) (hb : c.code = cc) (hl : l.stackTraces = false) {own cls : String} {names : List String} {ik ic mc ms : Nat} {A : Nat → Prop}
    (hown : s.vm.findClass own = some m.cls) (hcls : Bundle.fit cls = true) (hnames : ∀ n ∈ names, Bundle.fit n = true)
    (hk : (Cond.classLink own ik cls).before args s = true) (hini : (Cond.initialized cls).before args s = true) (hat : ∀ w ∈ vx_at0 own ic cls names, w.before args s = true)
    (hgood : ∀ w ∈ Cond.classLink own ik cls :: Cond.initialized cls :: vx_at0 own ic cls names, vx_ot w = true)
    (hU : vx_Zq Bundle.tN "UNASSIGNED_STACK" Bundle.steD A s s.heap) (hN : vx_Zq Bundle.tN "SUPPRESSED_SENTINEL" Bundle.listD A s s.heap) (hS : va_S A s.heap H locs) (hsize : ls.size = c.maxLocals)
    (d0 : decode cc pc = .ok (.new ik, 3)) (d3 : decode cc (pc + 3) = .ok (.dup, 1)) (d4 : decode cc (pc + 4) = .ok (.invokespecial ic, 3)) (d7 : decode cc (pc + 7) = .ok (.athrow, 1))
    (hout : ∀ x ∈ c.exceptionTable.toList, covers x (pc + 7) = false)
    (hRframes : names.length + 3 < R.frames) (hRlocals : (rest.map fun v => v.category).sum + (13 * (names.length + 1) + 42) ≤ R.locals) (hRcells : cells + 1 ≤ R.cells) (hRslots : slots + 6 ≤ R.slots) (hlocks : meth.locks = false)
    (hx : ∀ t : State, s.vm.Alike t.vm → H.size ≤ t.heap.size → (∀ q : Nat, q < H.size → t.heap[q]? = H[q]?) → XC cls s t)
    (hf : ∀ z ∈ locs, free z.base) (hc : cells + 1 ≤ mc) (hs : slots + 6 ≤ ms) :
    W p l e R s m args below meth c H locs cells slots (vx_MQ below Qc XC args s mc ms free) (F0 m pc ls rest) := by
  intro T hT X
  have htr : e.platform.stackTraces = false := (show e.platform.stackTraces = l.stackTraces by rw [X.admits.platform]).trans hl
  have Y := vx_rebase X (R' := { frames := R.frames, locals := R.locals, cells := 1, slots := 6 }) (Nat.le_refl _) (Nat.le_refl _) hRcells hRslots
  obtain ⟨s', hA⟩ : ∃ z, z = (T.setVm s.vm).setFrames (.invoking m args :: below) := ⟨_, rfl⟩
  rw [← hA] at Y
  have hvm : s'.vm = s.vm := by rw [hA]; rfl
  have hhp : s'.heap = H := by rw [hA]; exact hT
  have hW0 : s.WarmedH s'.vm := by rw [hvm]; exact State.WarmedH.refl s
  have hat' : ∀ w ∈ vx_at0 own ic cls names, w.before args s' = true := fun w hw => vx_ot_at hW0 hvm.symm (hgood w (List.mem_cons_of_mem _ (List.mem_cons_of_mem _ hw))) (hat w hw)
  have hk' : (Cond.classLink own ik cls).before args s' = true := vx_ot_at hW0 hvm.symm (hgood _ List.mem_cons_self) hk
  have hini' : (Cond.initialized cls).before args s' = true := vx_ot_at hW0 hvm.symm (hgood _ (List.mem_cons_of_mem _ List.mem_cons_self)) hini
  have hU' : vx_Zq Bundle.tN "UNASSIGNED_STACK" Bundle.steD A s' s'.heap := by rw [hhp]; exact vx_Zq.moved hW0.alike (hU.kept hS.2.1)
  have hN' : vx_Zq Bundle.tN "SUPPRESSED_SENTINEL" Bundle.listD A s' s'.heap := by rw [hhp]; exact vx_Zq.moved hW0.alike (hN.kept hS.2.1)
  have h : ∀ w ∈ Bundle.ownAtoms0 own ic cls names, w.before args s' = true := vx_own hat' (vx_isRefq hU'.1) (vx_isRefq hN'.1) hU'.2.word hN'.2.word
  have hown' : s'.vm.findClass own = some m.cls := by rw [hvm]; exact hown
  have hins : (Cond.instantiable cls 6).before args s' = true := h _ (by simp [Bundle.ownAtoms0])
  obtain ⟨vm₁, cX, kX, hfX, hkX, -, -, X₁, st1⟩ := Y.newCold hexec (own := own) (C := cls) (index := ik) (n := 6) hown' hk' hins hini'
    (g := F0 m pc ls rest) rfl (by rw [hb]; exact d0) (Nat.le_refl _) (Nat.le_refl _)
  generalize hT1 : (T.setVm vm₁).pushCell { cls := cX, slots := kX.instanceTypes.map defaultValue, vm := .none } = T1 at X₁ st1
  have hcat : (Value.ref T.heap.size).category = 1 := rfl
  have hcellA : T1.heap[T.heap.size]? = some (freshCell cX kX) := by rw [← hT1]; exact State.heap_pushCell_size _ _
  have d3' : decode c.code (pc + 3) = .ok (.dup, 1) := by rw [hb]; exact d3
  obtain ⟨U, hsteps, hrun, hend, hW, hsame, ce, hce, hO⟩ := X₁.ctorThrow0 hexec htr (own := own) (cls := cls) (names := names) (ic := ic) hown' hcls hnames h (fun x hx => nomatch hx) hfX hkX hcellA (by rw [hhp, hT]; exact Nat.le_refl _)
    (g := { method := m, pc := pc + 4, locals := ls, stack := .ref T.heap.size :: .ref T.heap.size :: rest, locked := none }) rfl hsize rfl rfl (rest := rest) rfl
    (by rw [hb]; exact d4) (by rw [hb]; exact d7) hout hRframes (by simp only [List.map_cons, List.sum_cons, hcat]; omega) hlocks
  obtain ⟨f1, f2⟩ := vx_frame hsame
  rw [hhp] at f1 f2
  have hWs : s.WarmedH U.vm := State.WarmedH.trans hW0 hW
  have hcl : s.vm.findClass cls = some ce.cls := by
    have h9 := hO.cls
    rw [hvm] at h9
    exact h9
  have hall : s.sameButNew ({ U with vm := s.vm } : State) locs mc ms := by
    subst hA
    obtain ⟨e1, e2⟩ := hsame
    rw [State.setFrames_setFrames] at e1
    have h2 : (T.setVm s.vm).sameButNew ({ U with vm := s.vm } : State) [] (0 + 1) (0 + 6) := ⟨e1, e2⟩
    have h3 := X.same.trans h2
    rw [List.append_nil] at h3
    exact h3.mono hc hs
  refine ⟨U, ?_, .threw T.heap.size, hrun, hend, Or.inr ⟨T.heap.size, rfl, cls, ce, locs, hx U hWs.alike f1 (fun q hq => f2 q hq (fun z hz => nomatch hz)), hce, hO.vm, hcl, hWs, hall, hf⟩⟩
  refine st1 _ ?_
  show Steps p.tables e below (T1.setTop { method := m, pc := pc + 3, locals := ls, stack := .ref T.heap.size :: rest, locked := none }) _
  jvm_step X₁.here [X₁.here.top, hexec, d3', Value.category]
  exact hsteps
/-- 'throw new E("text")': new; dup; ldc; invokespecial; athrow -/
theorem vx_throwS {cc : ByteArray} {pc : Nat} (hexec : p.tables.exec = Jvm.exec) (hb : c.code = cc) (hl : l.stackTraces = false) {own cls text : String} {names : List String} {ik is ic mc ms sa : Nat} {A : Nat → Prop}
    (hown : s.vm.findClass own = some m.cls) (hcls : Bundle.fit cls = true) (hnames : ∀ n ∈ names, Bundle.fit n = true)
    (hk : (Cond.classLink own ik cls).before args s = true) (hini : (Cond.initialized cls).before args s = true) (hstr : vk_R own is text sa s) (hat : ∀ w ∈ vx_atS own ic cls names, w.before args s = true)
    (hgood : ∀ w ∈ Cond.classLink own ik cls :: Cond.initialized cls :: vx_atS own ic cls names, vx_ot w = true)
    (hU : vx_Zq Bundle.tN "UNASSIGNED_STACK" Bundle.steD A s s.heap) (hN : vx_Zq Bundle.tN "SUPPRESSED_SENTINEL" Bundle.listD A s s.heap) (hS : va_S A s.heap H locs) (hsize : ls.size = c.maxLocals)
    (d0 : decode cc pc = .ok (.new ik, 3)) (d3 : decode cc (pc + 3) = .ok (.dup, 1)) (d4 : decode cc (pc + 4) = .ok (.ldc is, 2)) (d6 : decode cc (pc + 6) = .ok (.invokespecial ic, 3)) (d9 : decode cc (pc + 9) = .ok (.athrow, 1))
    (hout : ∀ x ∈ c.exceptionTable.toList, covers x (pc + 9) = false)
    (hRframes : names.length + 3 < R.frames) (hRlocals : (rest.map fun v => v.category).sum + (13 * (names.length + 1) + 43) ≤ R.locals) (hRcells : cells + 1 ≤ R.cells) (hRslots : slots + 6 ≤ R.slots) (hlocks : meth.locks = false)
    (hx : ∀ t : State, s.vm.Alike t.vm → H.size ≤ t.heap.size → (∀ q : Nat, q < H.size → t.heap[q]? = H[q]?) → XC cls s t)
    (hf : ∀ z ∈ locs, free z.base) (hc : cells + 1 ≤ mc) (hs : slots + 6 ≤ ms) :
    W p l e R s m args below meth c H locs cells slots (vx_MQ below Qc XC args s mc ms free) (F0 m pc ls rest) := by
  intro T hT X
  have htr : e.platform.stackTraces = false := (show e.platform.stackTraces = l.stackTraces by rw [X.admits.platform]).trans hl
  have Y := vx_rebase X (R' := { frames := R.frames, locals := R.locals, cells := 1, slots := 6 }) (Nat.le_refl _) (Nat.le_refl _) hRcells hRslots
  obtain ⟨s', hA⟩ : ∃ z, z = (T.setVm s.vm).setFrames (.invoking m args :: below) := ⟨_, rfl⟩
  rw [← hA] at Y
  have hvm : s'.vm = s.vm := by rw [hA]; rfl
  have hhp : s'.heap = H := by rw [hA]; exact hT
  have hW0 : s.WarmedH s'.vm := by rw [hvm]; exact State.WarmedH.refl s
  have hat' : ∀ w ∈ vx_atS own ic cls names, w.before args s' = true := fun w hw => vx_ot_at hW0 hvm.symm (hgood w (List.mem_cons_of_mem _ (List.mem_cons_of_mem _ hw))) (hat w hw)
  have hk' : (Cond.classLink own ik cls).before args s' = true := vx_ot_at hW0 hvm.symm (hgood _ List.mem_cons_self) hk
  have hini' : (Cond.initialized cls).before args s' = true := vx_ot_at hW0 hvm.symm (hgood _ (List.mem_cons_of_mem _ List.mem_cons_self)) hini
  have hU' : vx_Zq Bundle.tN "UNASSIGNED_STACK" Bundle.steD A s' s'.heap := by rw [hhp]; exact vx_Zq.moved hW0.alike (hU.kept hS.2.1)
  have hN' : vx_Zq Bundle.tN "SUPPRESSED_SENTINEL" Bundle.listD A s' s'.heap := by rw [hhp]; exact vx_Zq.moved hW0.alike (hN.kept hS.2.1)
  have h : ∀ w ∈ Bundle.ownAtoms own ic cls names, w.before args s' = true := vx_own hat' (vx_isRefq hU'.1) (vx_isRefq hN'.1) hU'.2.word hN'.2.word
  have hown' : s'.vm.findClass own = some m.cls := by rw [hvm]; exact hown
  have hins : (Cond.instantiable cls 6).before args s' = true := h _ (by simp [Bundle.ownAtoms])
  obtain ⟨vm₁, cX, kX, hfX, hkX, -, -, X₁, st1⟩ := Y.newCold hexec (own := own) (C := cls) (index := ik) (n := 6) hown' hk' hins hini'
    (g := F0 m pc ls rest) rfl (by rw [hb]; exact d0) (Nat.le_refl _) (Nat.le_refl _)
  generalize hT1 : (T.setVm vm₁).pushCell { cls := cX, slots := kX.instanceTypes.map defaultValue, vm := .none } = T1 at X₁ st1
  have hcat : (Value.ref T.heap.size).category = 1 := rfl
  have hcellA : T1.heap[T.heap.size]? = some (freshCell cX kX) := by rw [← hT1]; exact State.heap_pushCell_size _ _
  have d3' : decode c.code (pc + 3) = .ok (.dup, 1) := by rw [hb]; exact d3
  have d4' : decode c.code (pc + 4) = .ok (.ldc is, 2) := by rw [hb]; exact d4
  have hstr' : vk_R own is text sa s' := vk_R.warm hW0 hstr
  obtain ⟨U, hsteps, hrun, hend, hW, hsame, ce, hce, hO⟩ := X₁.ctorThrowS hexec htr (own := own) (cls := cls) (names := names) (ic := ic) hown' hcls hnames h (fun x hx => nomatch hx) hfX hkX hcellA (by rw [hhp, hT]; exact Nat.le_refl _) (msg := .ref sa) rfl
    (g := { method := m, pc := pc + 6, locals := ls, stack := .ref sa :: .ref T.heap.size :: .ref T.heap.size :: rest, locked := none }) rfl hsize rfl rfl (rest := rest) rfl
    (by rw [hb]; exact d6) (by rw [hb]; exact d9) hout hRframes (by simp only [List.map_cons, List.sum_cons, hcat]; omega) hlocks
  obtain ⟨f1, f2⟩ := vx_frame hsame
  rw [hhp] at f1 f2
  have hWs : s.WarmedH U.vm := State.WarmedH.trans hW0 hW
  have hcl : s.vm.findClass cls = some ce.cls := by
    have h9 := hO.cls
    rw [hvm] at h9
    exact h9
  have hall : s.sameButNew ({ U with vm := s.vm } : State) locs mc ms := by
    subst hA
    obtain ⟨e1, e2⟩ := hsame
    rw [State.setFrames_setFrames] at e1
    have h2 : (T.setVm s.vm).sameButNew ({ U with vm := s.vm } : State) [] (0 + 1) (0 + 6) := ⟨e1, e2⟩
    have h3 := X.same.trans h2
    rw [List.append_nil] at h3
    exact h3.mono hc hs
  refine ⟨U, ?_, .threw T.heap.size, hrun, hend, Or.inr ⟨T.heap.size, rfl, cls, ce, locs, hx U hWs.alike f1 (fun q hq => f2 q hq (fun z hz => nomatch hz)), hce, hO.vm, hcl, hWs, hall, hf⟩⟩
  refine st1 _ ?_
  show Steps p.tables e below (T1.setTop { method := m, pc := pc + 3, locals := ls, stack := .ref T.heap.size :: rest, locked := none }) _
  jvm_step X₁.here [X₁.here.top, hexec, d3', Value.category]
  exact X₁.ldcString hexec (own := own) (text := text) (index := is) (a := sa) hown' hstr'.1 hstr'.2
    (g := { method := m, pc := pc + 4, locals := ls, stack := .ref T.heap.size :: .ref T.heap.size :: rest, locked := none }) rfl d4' _ hsteps
/-- 'throw new E("text")', the text by a wide index -/
theorem vx_throwSW {cc : ByteArray} {pc : Nat} (hexec : p.tables.exec = Jvm.exec) (hb : c.code = cc) (hl : l.stackTraces = false) {own cls text : String} {names : List String} {ik is ic mc ms sa : Nat} {A : Nat → Prop}
    (hown : s.vm.findClass own = some m.cls) (hcls : Bundle.fit cls = true) (hnames : ∀ n ∈ names, Bundle.fit n = true)
    (hk : (Cond.classLink own ik cls).before args s = true) (hini : (Cond.initialized cls).before args s = true) (hstr : vk_R own is text sa s) (hat : ∀ w ∈ vx_atS own ic cls names, w.before args s = true)
    (hgood : ∀ w ∈ Cond.classLink own ik cls :: Cond.initialized cls :: vx_atS own ic cls names, vx_ot w = true)
    (hU : vx_Zq Bundle.tN "UNASSIGNED_STACK" Bundle.steD A s s.heap) (hN : vx_Zq Bundle.tN "SUPPRESSED_SENTINEL" Bundle.listD A s s.heap) (hS : va_S A s.heap H locs) (hsize : ls.size = c.maxLocals)
    (d0 : decode cc pc = .ok (.new ik, 3)) (d3 : decode cc (pc + 3) = .ok (.dup, 1)) (d4 : decode cc (pc + 4) = .ok (.ldc_w is, 3)) (d7 : decode cc (pc + 7) = .ok (.invokespecial ic, 3)) (d10 : decode cc (pc + 10) = .ok (.athrow, 1))
    (hout : ∀ x ∈ c.exceptionTable.toList, covers x (pc + 10) = false)
    (hRframes : names.length + 3 < R.frames) (hRlocals : (rest.map fun v => v.category).sum + (13 * (names.length + 1) + 43) ≤ R.locals) (hRcells : cells + 1 ≤ R.cells) (hRslots : slots + 6 ≤ R.slots) (hlocks : meth.locks = false)
    (hx : ∀ t : State, s.vm.Alike t.vm → H.size ≤ t.heap.size → (∀ q : Nat, q < H.size → t.heap[q]? = H[q]?) → XC cls s t)
    (hf : ∀ z ∈ locs, free z.base) (hc : cells + 1 ≤ mc) (hs : slots + 6 ≤ ms) :
    W p l e R s m args below meth c H locs cells slots (vx_MQ below Qc XC args s mc ms free) (F0 m pc ls rest) := by
  intro T hT X
  have htr : e.platform.stackTraces = false := (show e.platform.stackTraces = l.stackTraces by rw [X.admits.platform]).trans hl
  have Y := vx_rebase X (R' := { frames := R.frames, locals := R.locals, cells := 1, slots := 6 }) (Nat.le_refl _) (Nat.le_refl _) hRcells hRslots
  obtain ⟨s', hA⟩ : ∃ z, z = (T.setVm s.vm).setFrames (.invoking m args :: below) := ⟨_, rfl⟩
  rw [← hA] at Y
  have hvm : s'.vm = s.vm := by rw [hA]; rfl
  have hhp : s'.heap = H := by rw [hA]; exact hT
  have hW0 : s.WarmedH s'.vm := by rw [hvm]; exact State.WarmedH.refl s
  have hat' : ∀ w ∈ vx_atS own ic cls names, w.before args s' = true := fun w hw => vx_ot_at hW0 hvm.symm (hgood w (List.mem_cons_of_mem _ (List.mem_cons_of_mem _ hw))) (hat w hw)
  have hk' : (Cond.classLink own ik cls).before args s' = true := vx_ot_at hW0 hvm.symm (hgood _ List.mem_cons_self) hk
  have hini' : (Cond.initialized cls).before args s' = true := vx_ot_at hW0 hvm.symm (hgood _ (List.mem_cons_of_mem _ List.mem_cons_self)) hini
  have hU' : vx_Zq Bundle.tN "UNASSIGNED_STACK" Bundle.steD A s' s'.heap := by rw [hhp]; exact vx_Zq.moved hW0.alike (hU.kept hS.2.1)
  have hN' : vx_Zq Bundle.tN "SUPPRESSED_SENTINEL" Bundle.listD A s' s'.heap := by rw [hhp]; exact vx_Zq.moved hW0.alike (hN.kept hS.2.1)
  have h : ∀ w ∈ Bundle.ownAtoms own ic cls names, w.before args s' = true := vx_own hat' (vx_isRefq hU'.1) (vx_isRefq hN'.1) hU'.2.word hN'.2.word
  have hown' : s'.vm.findClass own = some m.cls := by rw [hvm]; exact hown
  have hins : (Cond.instantiable cls 6).before args s' = true := h _ (by simp [Bundle.ownAtoms])
  obtain ⟨vm₁, cX, kX, hfX, hkX, -, -, X₁, st1⟩ := Y.newCold hexec (own := own) (C := cls) (index := ik) (n := 6) hown' hk' hins hini'
    (g := F0 m pc ls rest) rfl (by rw [hb]; exact d0) (Nat.le_refl _) (Nat.le_refl _)
  generalize hT1 : (T.setVm vm₁).pushCell { cls := cX, slots := kX.instanceTypes.map defaultValue, vm := .none } = T1 at X₁ st1
  have hcat : (Value.ref T.heap.size).category = 1 := rfl
  have hcellA : T1.heap[T.heap.size]? = some (freshCell cX kX) := by rw [← hT1]; exact State.heap_pushCell_size _ _
  have d3' : decode c.code (pc + 3) = .ok (.dup, 1) := by rw [hb]; exact d3
  have d4' : decode c.code (pc + 4) = .ok (.ldc_w is, 3) := by rw [hb]; exact d4
  have hstr' : vk_R own is text sa s' := vk_R.warm hW0 hstr
  obtain ⟨U, hsteps, hrun, hend, hW, hsame, ce, hce, hO⟩ := X₁.ctorThrowS hexec htr (own := own) (cls := cls) (names := names) (ic := ic) hown' hcls hnames h (fun x hx => nomatch hx) hfX hkX hcellA (by rw [hhp, hT]; exact Nat.le_refl _) (msg := .ref sa) rfl
    (g := { method := m, pc := pc + 7, locals := ls, stack := .ref sa :: .ref T.heap.size :: .ref T.heap.size :: rest, locked := none }) rfl hsize rfl rfl (rest := rest) rfl
    (by rw [hb]; exact d7) (by rw [hb]; exact d10) hout hRframes (by simp only [List.map_cons, List.sum_cons, hcat]; omega) hlocks
  obtain ⟨f1, f2⟩ := vx_frame hsame
  rw [hhp] at f1 f2
  have hWs : s.WarmedH U.vm := State.WarmedH.trans hW0 hW
  have hcl : s.vm.findClass cls = some ce.cls := by
    have h9 := hO.cls
    rw [hvm] at h9
    exact h9
  have hall : s.sameButNew ({ U with vm := s.vm } : State) locs mc ms := by
    subst hA
    obtain ⟨e1, e2⟩ := hsame
    rw [State.setFrames_setFrames] at e1
    have h2 : (T.setVm s.vm).sameButNew ({ U with vm := s.vm } : State) [] (0 + 1) (0 + 6) := ⟨e1, e2⟩
    have h3 := X.same.trans h2
    rw [List.append_nil] at h3
    exact h3.mono hc hs
  refine ⟨U, ?_, .threw T.heap.size, hrun, hend, Or.inr ⟨T.heap.size, rfl, cls, ce, locs, hx U hWs.alike f1 (fun q hq => f2 q hq (fun z hz => nomatch hz)), hce, hO.vm, hcl, hWs, hall, hf⟩⟩
  refine st1 _ ?_
  show Steps p.tables e below (T1.setTop { method := m, pc := pc + 3, locals := ls, stack := .ref T.heap.size :: rest, locked := none }) _
  jvm_step X₁.here [X₁.here.top, hexec, d3', Value.category]
  exact X₁.ldcStringW hexec (own := own) (text := text) (index := is) (a := sa) hown' hstr'.1 hstr'.2
    (g := { method := m, pc := pc + 4, locals := ls, stack := .ref T.heap.size :: .ref T.heap.size :: rest, locked := none }) rfl d4' _ hsteps
end Ends
section Bodies
variable {l : Launch}
theorem vx_ofW {y : MethodName} {ws ws' : List Cond} {rm : Room} {Pc : Array Value → State → Prop} {Qc : Array Value → State → Outcome → State → Prop} {XC : String → State → State → Prop} {mc ms : Nat} {free : Addr → Prop} {cc : ByteArray} {maxL : Nat} {ret : Option FieldType}
    (hy : plainName y.cls = true) (hw : ws = Cond.code y cc maxL ret :: ws')
    (body : ∀ p e s m args below meth c s₁, BodyLoose p l y (headSpec ws rm) cc maxL ret e s m args below meth c s₁ → c.maxLocals = maxL → (∀ x ∈ c.exceptionTable.toList, False) → Pc args s →
      W p l e (headSpec ws rm).room s m args below meth c s.heap [] 0 0 (vx_MQ below Qc XC args s mc ms free) (entryFrame m args maxL)) : vx_Met l y ws rm Pc Qc XC mc ms free := by
  refine MetFree.of_bodyS (code := cc) (maxLocals := maxL) (ret := ret) hy ?_ ?_
  · intro args s m h hn
    obtain ⟨meth, c, h1, h2, h3, h4, h5, h6, -, -⟩ := Cond.code_spec hn (atoms_spec (ws := ws) h _ (by rw [hw]; exact List.mem_cons_self))
    exact ⟨meth, c, h1, h2, h3, h4, h5, h6⟩
  · intro p e s m args below meth c s₁ B hml hP _
    have hh0 : s₁.heap = s.heap := by rw [B.state]; rfl
    have ht : ∀ x ∈ c.exceptionTable.toList, False := by
      obtain ⟨meth9, c9, h1, h2, -, -, -, -, h7, -⟩ := Cond.code_spec B.named (atoms_spec (ws := ws) B.pre _ (by rw [hw]; exact List.mem_cons_self))
      cases Option.some.inj (h1.symm.trans B.method)
      cases Option.some.inj (h2.symm.trans (Stand.of_body B).code)
      intro x hx
      rw [Array.isEmpty_iff.mp h7] at hx
      cases hx
    obtain ⟨t, a1, o, b1, b2, b3⟩ := body p e s m args below meth c s₁ B hml ht hP s₁ hh0 (Stand.of_body B)
    exact ⟨t, o, a1, b1, b2, b3⟩
/-- the table of a body with handlers -/
theorem vx_table {p : Program} {x y : MethodName} {S : Spec} {cc bytes : ByteArray} {maxL maxL' : Nat} {ret ret' : Option FieldType} {e : Env} {s s₁ : State} {m : MethodId} {args : Array Value} {below : List Frame} {meth : Method} {c : Code} {hh : List (Nat × Nat × Nat × Nat)}
    (B : BodyLoose p l y S cc maxL ret e s m args below meth c s₁) (h : (Cond.codeWith y bytes maxL' ret' hh).before args s = true) : c.exceptionTable.toList = tableOf hh := by
  obtain ⟨m9, meth9, c9, hn9, h1, h2, -, -, h6, -⟩ := Cond.codeWith_spec h
  cases Option.some.inj (hn9.symm.trans B.named)
  cases Option.some.inj (h1.symm.trans B.method)
  cases Option.some.inj (h2.symm.trans (Stand.of_body B).code)
  rw [← h6, table_eq]
end Bodies
end VXA
/-! ===== END ===== -/
/-! ===== BEGIN a static call of a method with an exception table ===== -/
section VXS
variable {p : Program} {l : Launch} {e : Env} {R : Room} {s : State} {m : MethodId} {args : Array Value} {below : List Frame} {meth : Method} {c : Code} {T : State} {H : Heap} {locs : List Loc} {cells slots : Nat}
abbrev vx_CSW (R : Room) (s : State) (args : Array Value) (own : String) (index : Nat) (y : MethodName) (bytes : ByteArray) (maxL : Nat) (ret : Option FieldType) (hh : List (Nat × Nat × Nat × Nat)) (ws : List Cond) (rm : Room) (mc ms n : Nat) : Prop :=
  (rm.cells = mc ∧ rm.slots = ms ∧ rm.frames + 1 ≤ R.frames ∧ 8 + (maxL + 11) + rm.locals ≤ R.locals ∧ (∀ w ∈ ws, ∀ (a' : Array Value) (U : State), s.WarmedH U.vm → w.before a' U = true) ∧ Cond.codeWith y bytes maxL ret hh ∈ ws) ∧
  (Cond.codeWith y bytes maxL ret hh).before args s = true ∧ (Cond.initialized y.cls).before args s = true ∧ (y.cls ≠ "java/lang/invoke/MethodHandle" ∧ y.cls ≠ "java/lang/invoke/VarHandle") ∧
  (∀ sig, parseMethodDescriptor y.desc = some sig → n = sig.parameters.length) ∧ (Cond.methodLink own index y).before args s = true ∧ (Cond.static y).before args s = true
theorem vx_cwSW {own : String} {index maxL mc ms : Nat} {y : MethodName} {bytes : ByteArray} {ret : Option FieldType} {hh : List (Nat × Nat × Nat × Nat)} {Ts ws ws' : List Cond} {rm : Room} (n : Nat) (ht : ∀ w ∈ Ts, w.before args s = true) (hT : GoodIn Ts (va_wsS own index y ws)) (hw : ws = Cond.codeWith y bytes maxL ret hh :: ws') (hrc : rm.cells = mc) (hrs : rm.slots = ms)
    (hd : y.cls ≠ "java/lang/invoke/MethodHandle" ∧ y.cls ≠ "java/lang/invoke/VarHandle" ∧ (parseMethodDescriptor y.desc).map (fun d => d.parameters.length) = some n) (hR : rm.frames + 1 ≤ R.frames ∧ 8 + (maxL + 11) + rm.locals ≤ R.locals) :
    vx_CSW R s args own index y bytes maxL ret hh ws rm mc ms n := by
  have ok : ∀ w ∈ va_wsS own index y ws, w.before args s = true := fun w h => ht w (hT w h).1
  have hG : GoodIn Ts ws := fun w h => hT w (by unfold va_wsS; exact List.mem_append_right _ h)
  have hc : Cond.codeWith y bytes maxL ret hh ∈ ws := by rw [hw]; exact List.mem_cons_self
  refine ⟨⟨hrc, hrs, hR.1, hR.2, pay_in ht hG, hc⟩, ht _ (hG _ hc).1, ok _ (by simp [va_wsS]), ⟨hd.1, hd.2.1⟩, fun sig h => ?_, ok _ (by simp [va_wsS]), ok _ (by simp [va_wsS])⟩
  have h2 := hd.2.2
  rw [h] at h2
  exact (Option.some.inj h2).symm
theorem vx_callSW (X : Stand p l e R s m args below meth c T locs cells slots) (hexec : p.tables.exec = Jvm.exec) {own : String} {index : Nat} {y : MethodName} {bytes : ByteArray} {maxL : Nat} {ret : Option FieldType} {hh : List (Nat × Nat × Nat × Nat)}
    (hown : s.vm.findClass own = some m.cls) (hlink : (Cond.methodLink own index y).before args s = true) (hstat : (Cond.static y).before args s = true) (hinit : (Cond.initialized y.cls).before args s = true)
    (hcode : (Cond.codeWith y bytes maxL ret hh).before args s = true) (hy : y.cls ≠ "java/lang/invoke/MethodHandle" ∧ y.cls ≠ "java/lang/invoke/VarHandle")
    {W9 : Nat} {Pre : Pt → Array Value → Prop} {Post : Pt → Array Value → Option Value → Pt → Prop} (hK : Back l R p e below s args y 3 W9 Pre Post)
    {g : JFrame} (hg : g.method = m) (hsize : g.locals.size = c.maxLocals) {argsL rest : List Value} (hlen : ∀ sig, parseMethodDescriptor y.desc = some sig → argsL.length = sig.parameters.length)
    (hstack : g.stack = argsL.reverse ++ rest) (hW : 2 * g.monitorRoom + (rest.map fun v => v.category).sum ≤ W9) (hdg : decode c.code g.pc = .ok (.invokestatic index, 3))
    (hpre : ∀ vm₁, s.WarmedH vm₁ → Pre ⟨T.setVm vm₁, locs, cells, slots⟩ argsL.toArray) :
    ∃ (v : Option Value) (vm₁ : Vm) (B : Pt), s.WarmedH vm₁ ∧ Stand p l e R s m args below meth c B.U B.locs B.cells B.slots ∧ Post ⟨T.setVm vm₁, locs, cells, slots⟩ argsL.toArray v B ∧
      ∀ target, Steps p.tables e below (B.U.setTop { g with pc := g.pc + 3, stack := v.toList ++ rest }) target → Steps p.tables e below (T.setTop g) target := by
  obtain ⟨mk, methM, cM, hnamed, hmethM, -, -, -, -, -, -, hsigM⟩ := Cond.codeWith_spec hcode
  have hstatic : methM.isStatic = true := Cond.static_spec hnamed hmethM hstat
  obtain ⟨kP, hkP, -⟩ := className_of_methodNamed hnamed
  have hinitP : kP.init = .initialized := Cond.initialized_spec (findClass_of_methodNamed hnamed) hkP hinit
  obtain ⟨vm₁, X₁, hstep₁⟩ := X.invokestatic hexec hown hlink hnamed hmethM hstatic hkP hinitP hy (g := g) hg (argsL := argsL) (rest := rest) (hlen _ hsigM) hstack hdg
  obtain ⟨v, B, X', hpost, hsteps⟩ := hK m meth c ⟨T.setVm vm₁, locs, cells, slots⟩ { g with stack := rest } (.invokestatic index) mk argsL.toArray X₁ hg hsize hdg hW (X₁.named hnamed) (hpre vm₁ X₁.warmed)
  exact ⟨v, vm₁, B, X₁.warmed, X', hpost, fun target h => hstep₁ _ fun acts => by rw [doInvoke_state]; exact hsteps.trans h⟩
theorem vx_runSW {y : MethodName} {bytes cc : ByteArray} {maxL nL mc ms n index : Nat} {ret : Option FieldType} {hh : List (Nat × Nat × Nat × Nat)} {ws : List Cond} {rm : Room} {Pc : Array Value → State → Prop} {Qc : Array Value → State → Outcome → State → Prop} {free : Addr → Prop} {Ts : List Cond} {own : String} {As rest : List Value} {g : JFrame}
    (S : CallFix p m c cc nL s args Ts own) (hM : Met l y ws rm Pc Qc mc ms free) (cw : vx_CSW R s args own index y bytes maxL ret hh ws rm mc ms n) (hp : PreS s H Pc As)
    (hg : g.method = m) (hn : As.length = n) (hsize : g.locals.size = nL) (hstack : g.stack = As.reverse ++ rest) (hW : 2 * g.monitorRoom + (rest.map fun v => v.category).sum ≤ 8) (hdg : decode cc g.pc = .ok (.invokestatic index, 3)) (hf : cells + mc ≤ R.cells ∧ slots + ms ≤ R.slots) :
    va_Run p l e R s m args below meth c H locs cells slots mc ms g rest (Qc As.toArray) (free) := by
  obtain ⟨⟨hrc, hrs, hfr, hlo, hws, hcw⟩, hcode, hini, hy, hlen, hl, hstt⟩ := cw
  have hK : Back l R p e below s args y 3 8 (PreOf R mc ms Pc) (PostOf Qc mc ms free) := va_backW (hh := hh) (bytes := bytes) (maxL := maxL) (ret := ret) hM hp.1 hrc hrs hfr hlo hws hcw (fun a' U hW => word_at hW (Or.inl (by first | rfl | simp [Cond.onTables, Cond.keeps, Cond.steady])) hini)
  obtain ⟨hx, hb, hml, ho, -⟩ := S
  intro T hT X
  obtain ⟨v, vm₁, ⟨U', l2, c2, s2⟩, hW₁, X', ⟨g', mk, t, L, e1, e2, hq, h1, hL, h2, h3⟩, st⟩ := vx_callSW X hx (hh := hh) (bytes := bytes) (maxL := maxL) (ret := ret) ho hl hstt hini hcode hy hK hg (hsize.trans hml.symm) (argsL := As) (rest := rest) (fun sig h => hn.trans (hlen sig h)) hstack hW (by rw [hb]; exact hdg)
    (fun vm₁ hW₁ => ⟨hf.1, hf.2, hp.2 (T.setVm vm₁) hT hW₁⟩)
  dsimp only [Pt.U, Pt.locs, Pt.cells, Pt.slots] at X' e1 e2 h1 h2 h3 st
  subst h1; subst h2; subst h3
  exact ⟨v, (T.setVm vm₁).calling g' mk As.toArray, t, U', L, hT, X', hL, e1, e2, hq, st⟩
/-- not caught here, past rows that name other classes: it goes on to the caller -/
theorem vx_outP {p : Program} {l : Launch} {e : Env} {R : Room} {s : State} {m : MethodId} {args : Array Value} {below : List Frame} {meth : Method} {c : Code} {H : Heap} {locs : List Loc} {cells slots : Nat} {free : Addr → Prop} {ls : Array Slot} {rest : List Value} {Qc : Array Value → State → Outcome → State → Prop} {XC : String → State → State → Prop}
    {pc : Nat} {own E : String} {ce : Cell} {q : Addr} {mc ms : Nat} (hown : s.vm.findClass own = some m.cls) (hlocks : meth.locks = false)
    (hpass : ∀ z ∈ c.exceptionTable.toList, covers z pc = false ∨ (z.catchType ≠ 0 ∧ ∃ nm : String, (Cond.classLink own z.catchType nm).before args s = true ∧ va_Nc E nm s)) (hcell : H[q]? = some ce) (hv : ce.vm = .none) (hcl : s.vm.findClass E = some ce.cls)
    (hx : ∀ t : State, t.heap = H → s.vm.Alike t.vm → XC E s t) (hf : ∀ z ∈ locs, free z.base) (hc : cells ≤ mc) (hs : slots ≤ ms) :
    vx_W p l e R s m args below meth c H locs cells slots (vx_MQ below Qc XC args s mc ms free) (F0 m pc ls rest) q := by
  intro T hT X
  have hpl : e.platform.magicAccessors = ({} : Platform).magicAccessors := by rw [X.admits.platform]
  obtain ⟨vm', hW', X', st⟩ := X.outThrough hlocks q (g := F0 m pc ls rest) rfl rfl rfl (cell := ce) (by rw [hT]; exact hcell) (by rw [hv]; rfl)
    (by obtain ⟨k9, h9, -⟩ := Vm.findClass_spec hcl; exact ⟨k9, h9⟩) (fun z hz => by
      rcases hpass z hz with h | ⟨hz0, nm, hl1, hn1⟩
      · exact Or.inl h
      · obtain ⟨c6, hc6, hcl6⟩ := Cond.classLink_spec hown hl1 e.platform hpl
        obtain ⟨a8, b8, h1, h2, h3⟩ := hn1
        cases Option.some.inj (h1.symm.trans hcl)
        cases Option.some.inj (h2.symm.trans hc6)
        exact Or.inr ⟨hz0, _, hcl6, h3⟩)
  obtain ⟨g₀, hfr⟩ := X'.frames_eq
  have hcell9 : ((T.setVm vm').setFrames (.throwing q :: below)).heap[q]? = some ce := by
    show T.heap[q]? = some ce
    rw [hT]; exact hcell
  have hend : Ended ((T.setVm vm').setFrames (.throwing q :: below)) below (.threw q) := State.frames_setFrames _ (State.cur_lt_of_frames hfr)
  refine ⟨(T.setVm vm').setFrames (.throwing q :: below), ?_, .threw q, X'.here.running, hend, Or.inr ⟨q, rfl, E, ce, locs, hx _ hT (X'.ends _).1.alike, hcell9, hv, hcl, (X'.ends _).1, (X'.ends _).2.mono hc hs, hf⟩⟩
  rw [X.pushThrowing_eq]
  exact st
/-- a thing of a world lies in the heap -/
theorem vx_lt {D : va_G} {cl : List vw_C} {ws : va_W} {H1 : Heap} (h : va_P D cl ws H1) {k : Nat} {q : Nat × va_E} (hk : ws[k]? = some q) : q.1 < H1.size := (h k q hk).lt
end VXS
/-! ===== END ===== -/
/-! ===== BEGIN methods with a table of their own: called by a name, returning or throwing ===== -/
section VXH
/-! vx_backW, vx_callVX, vx_callSX, vx_callVW, vx_runVW, vx_runVX, vx_runSX, vx_ofWH follow the same proofs as their sisters above (Free/Laws.lean, Shelf42/LK1.lean); vx_outP calls Shelf42/NT130.lean (outThrough). -/
section
variable {l : Launch} {R : Room} {p : Program} {e : Env} {below : List Frame} {s : State} {sargs : Array Value} {y : MethodName} {len W9 : Nat}
theorem vx_backW {ws : List Cond} {rm : Room} {Pc : Array Value → State → Prop} {Qc : Array Value → State → Outcome → State → Prop} {XC : String → State → State → Prop} {mc ms : Nat} {free : Addr → Prop} {bytes : ByteArray} {maxL : Nat} {ret : Option FieldType} {hh : List (Nat × Nat × Nat × Nat)}
    (hM : vx_Met l y ws rm Pc Qc XC mc ms free) (hblind : FrameBlind Pc) (hrc : rm.cells = mc) (hrs : rm.slots = ms)
    (hframes : rm.frames + 1 ≤ R.frames) (hlocals : W9 + (maxL + 11) + rm.locals ≤ R.locals)
    (hws : ∀ w ∈ ws, ∀ a' U, s.WarmedH U.vm → w.before a' U = true) (hcode : Cond.codeWith y bytes maxL ret hh ∈ ws) (hinit : ∀ a' U, s.WarmedH U.vm → (Cond.initialized y.cls).before a' U = true) :
    vx_Back l R p e below s sargs y len W9 (PreOf R mc ms Pc) (PostOf Qc mc ms free) (vx_Post XC mc ms free) := by
  intro m meth c A g ig mk a X hg hsize hdg hW hn hp
  have h1 : (headSpec ws rm).pre.before a A.U = true := atoms_intro fun w hw => hws w hw _ _ X.warmed
  have h2 : (Cond.codeWith y bytes maxL ret hh).before a A.U = true := hws _ hcode _ _ X.warmed
  have h3 : (Cond.initialized y.cls).before a A.U = true := hinit _ _ X.warmed
  have h4 : A.cells + (headSpec ws rm).room.cells ≤ R.cells := by rw [show (headSpec ws rm).room.cells = mc from hrc]; exact hp.1
  have h5 : A.slots + (headSpec ws rm).room.slots ≤ R.slots := by rw [show (headSpec ws rm).room.slots = ms from hrs]; exact hp.2.1
  have hPc : Pc a (A.U.calling g mk a) := hblind _ _ _ _ hp.2.2
  obtain ⟨U, Ls, c0, s0⟩ := A
  dsimp only [Pt.U, Pt.locs, Pt.cells, Pt.slots] at h1 h2 h3 h4 h5 X hn hPc ⊢
  obtain ⟨m9, methY, cY, hn9, hmY, hcY, -, hlY, -⟩ := Cond.codeWith_spec h2
  cases Option.some.inj (hn9.symm.trans hn)
  obtain ⟨kY, hkY, -⟩ := className_of_methodNamed hn
  have hinitY : kY.init = .initialized := Cond.initialized_spec (findClass_of_methodNamed hn) hkY h3
  have h : At U g.method c below := by rw [hg]; exact X.here
  have hlocals9 : W9 + (maxL + 11) + (headSpec ws rm).room.locals ≤ R.locals := hlocals
  have happ : (headSpec ws rm).appliesLoose y e.platform (U.calling g mk a) = true :=
    Spec.appliesLoose_calling (g := g) h hdg hn hkY hinitY
      (X.room_calling (g := g) (R' := (headSpec ws rm).room) hsize hmY hcY hframes (by rw [hlY]; omega) h4 h5) h1
  obtain ⟨mid, hmid⟩ := h.above
  have hfr : (U.setTop g).frames = (.java g :: mid) ++ below := by rw [State.frames_setTop' g h.top, hmid]; rfl
  obtain ⟨o, s₂, hsteps, -, hend, hq⟩ := Steps.callFree hM p X.admits X.cas X.clock (acts := []) hfr happ hPc trivial
  have hq' : vx_Q Qc XC mc ms free a (U.calling g mk a) o s₂ := hq
  rw [State.frames_setTop' g h.top] at hend
  obtain ⟨g₀, hg0⟩ := Option.isSome_iff_exists.mp h.top
  obtain ⟨r, hr⟩ := State.topJava?_eq_some.mp hg0
  have hr' : (({ U with heap := s₂.heap, slotsUsed := s₂.slotsUsed } : State).setVm s₂.vm).frames = .java g₀ :: r := hr
  rcases hq' with ⟨hqc, L, hfe, hL⟩ | ⟨q, rfl, E, ce, L, hx, hce, hcv, hcl, hW₂, hsm, hL⟩
  · obtain ⟨⟨v, rfl⟩, hW₂, e2, q2, q3, q4, q5, q6⟩ := id hfe
    have e3 : s₂ = ({ (U.calling g mk a).setFrames s₂.frames with heap := s₂.heap, slotsUsed := s₂.slotsUsed } : State).setVm s₂.vm := by
      have : s₂ = ({ s₂ with vm := (U.calling g mk a).vm } : State).setVm s₂.vm := rfl
      rw [e2] at this
      exact this
    obtain ⟨c₂, i₂, len₂, hc₂, hd₂, hf₂⟩ := hend
    have hW' : U.WarmedH s₂.vm := hW₂
    have hcc : c₂ = c := by
      have h1 : s₂.code? g.method = U.code? g.method := by
        rw [State.code?_eq, State.code?_eq, hW'.alike.method?]
      exact Option.some.inj (hc₂.symm.trans (h1.trans h.code))
    subst hcc
    have hlen : len₂ = len := by rw [hdg] at hd₂; cases hd₂; rfl
    subst hlen
    have hs₂ : s₂ = (({ U with heap := s₂.heap, slotsUsed := s₂.slotsUsed } : State).setVm s₂.vm).setTop { g with pc := g.pc + len₂, stack := v.toList ++ g.stack } := by
      refine e3.trans ?_
      rw [hf₂, State.calling_eq h.top, State.setFrames_setFrames, State.setTop_of_frames _ hr', hr]
      rfl
    have hsame : U.sameButNew ({ U with heap := s₂.heap, slotsUsed := s₂.slotsUsed } : State) L mc ms := by
      refine ⟨?_, q2, q3, q4, q5, q6⟩
      obtain ⟨t, ht, -⟩ := State.frames_cons hr
      show ({ U with heap := s₂.heap, slotsUsed := s₂.slotsUsed } : State) = { U.setFrames U.frames with heap := s₂.heap, slotsUsed := s₂.slotsUsed }
      rw [State.setFrames_self ht]
    subst hg
    refine Or.inl ⟨v, ⟨(({ U with heap := s₂.heap, slotsUsed := s₂.slotsUsed } : State).setVm s₂.vm), Ls ++ L, c0 + mc, s0 + ms⟩,
      ⟨X.admits, X.cas, X.clock, X.frames, X.room, X.hears, X.method, X.code, (X.here.setHeapUsed s₂.heap s₂.slotsUsed).setVm hW'.alike, X.tail, State.WarmedH.trans X.warmed hW', X.limits, X.bytes, X.same.trans (hsame.setVm s.vm)⟩,
      ⟨g, mk, s₂, L, rfl, rfl, hqc, rfl, hL, rfl, rfl⟩, ?_⟩
    show Steps p.tables e below _ ((({ U with heap := s₂.heap, slotsUsed := s₂.slotsUsed } : State).setVm s₂.vm).setTop { g with pc := g.pc + len₂, stack := v.toList ++ g.stack })
    rw [← hs₂]
    exact hsteps
  · obtain ⟨e2, q2, q3, q4, q5, q6⟩ := id hsm
    have e3 : s₂ = ({ (U.calling g mk a).setFrames s₂.frames with heap := s₂.heap, slotsUsed := s₂.slotsUsed } : State).setVm s₂.vm := by
      have : s₂ = ({ s₂ with vm := (U.calling g mk a).vm } : State).setVm s₂.vm := rfl
      rw [e2] at this
      exact this
    have hf₂ : s₂.frames = .throwing q :: .java g :: U.frames.tail := hend
    have hW' : U.WarmedH s₂.vm := hW₂
    have hs₂ : s₂ = ((({ U with heap := s₂.heap, slotsUsed := s₂.slotsUsed } : State).setVm s₂.vm).setTop g).pushFrame (.throwing q) := by
      refine e3.trans ?_
      rw [hf₂, State.calling_eq h.top, State.setFrames_setFrames, State.pushFrame, State.frames_setTop _ hr', State.setTop_of_frames _ hr', State.setFrames_setFrames, hr]
      rfl
    have hsame : U.sameButNew ({ U with heap := s₂.heap, slotsUsed := s₂.slotsUsed } : State) L mc ms := by
      refine ⟨?_, q2, q3, q4, q5, q6⟩
      obtain ⟨t, ht, -⟩ := State.frames_cons hr
      show ({ U with heap := s₂.heap, slotsUsed := s₂.slotsUsed } : State) = { U.setFrames U.frames with heap := s₂.heap, slotsUsed := s₂.slotsUsed }
      rw [State.setFrames_self ht]
    subst hg
    refine Or.inr ⟨q, ⟨(({ U with heap := s₂.heap, slotsUsed := s₂.slotsUsed } : State).setVm s₂.vm), Ls ++ L, c0 + mc, s0 + ms⟩,
      ⟨X.admits, X.cas, X.clock, X.frames, X.room, X.hears, X.method, X.code, (X.here.setHeapUsed s₂.heap s₂.slotsUsed).setVm hW'.alike, X.tail, State.WarmedH.trans X.warmed hW', X.limits, X.bytes, X.same.trans (hsame.setVm s.vm)⟩,
      ⟨g, mk, s₂, L, E, ce, rfl, rfl, hx, hce, hcv, hcl, rfl, hL, rfl, rfl⟩, ?_⟩
    show Steps p.tables e below _ (((({ U with heap := s₂.heap, slotsUsed := s₂.slotsUsed } : State).setVm s₂.vm).setTop g).pushFrame (.throwing q))
    rw [← hs₂]
    exact hsteps
end
variable {p : Program} {l : Launch} {e : Env} {R : Room} {s : State} {m : MethodId} {args : Array Value} {below : List Frame} {meth : Method} {c : Code} {T : State} {H : Heap} {locs : List Loc} {cells slots : Nat}
theorem vx_callVX (X : Stand p l e R s m args below meth c T locs cells slots) (hexec : p.tables.exec = Jvm.exec) {own C : String} {index : Nat} {y : MethodName} {bytes : ByteArray} {maxL : Nat} {ret : Option FieldType} {hh : List (Nat × Nat × Nat × Nat)}
    (hown : s.vm.findClass own = some m.cls) (hlink : (Cond.methodLink own index y).before args s = true) (hinst : (Cond.instanceMethod y).before args s = true) (hsel : (Cond.selects C y y).before args s = true)
    (hcode : (Cond.codeWith y bytes maxL ret hh).before args s = true) (hy : y.cls ≠ "java/lang/invoke/MethodHandle" ∧ y.cls ≠ "java/lang/invoke/VarHandle")
    {W9 : Nat} {Pre : Pt → Array Value → Prop} {Post : Pt → Array Value → Option Value → Pt → Prop} {PostX : Pt → Array Value → Addr → Pt → Prop} (hK : vx_Back l R p e below s args y 3 W9 Pre Post PostX)
    {b : Addr} {cellB : Cell} (hcell : T.heap[b]? = some cellB) (hobj : cellB.vm.isStatics = false) (hcls : s.vm.findClass C = some cellB.cls)
    {g : JFrame} (hg : g.method = m) (hsize : g.locals.size = c.maxLocals) {argsL rest : List Value} (hlen : ∀ sig, parseMethodDescriptor y.desc = some sig → argsL.length = sig.parameters.length)
    (hstack : g.stack = argsL.reverse ++ .ref b :: rest) (hW : 2 * g.monitorRoom + (rest.map fun v => v.category).sum ≤ W9) (hdg : decode c.code g.pc = .ok (.invokevirtual index, 3))
    (hpre : ∀ vm₁, s.WarmedH vm₁ → Pre ⟨T.setVm vm₁, locs, cells, slots⟩ (Value.ref b :: argsL).toArray) :
    (∃ (v : Option Value) (vm₁ : Vm) (B : Pt), s.WarmedH vm₁ ∧ Stand p l e R s m args below meth c B.U B.locs B.cells B.slots ∧ Post ⟨T.setVm vm₁, locs, cells, slots⟩ (Value.ref b :: argsL).toArray v B ∧
      ∀ target, Steps p.tables e below (B.U.setTop { g with pc := g.pc + 3, stack := v.toList ++ rest }) target → Steps p.tables e below (T.setTop g) target) ∨
    (∃ (q : Addr) (vm₁ : Vm) (B : Pt), s.WarmedH vm₁ ∧ Stand p l e R s m args below meth c B.U B.locs B.cells B.slots ∧ PostX ⟨T.setVm vm₁, locs, cells, slots⟩ (Value.ref b :: argsL).toArray q B ∧
      Steps p.tables e below (T.setTop g) ((B.U.setTop { g with stack := rest }).pushFrame (.throwing q))) := by
  obtain ⟨mk, methM, hnamed, hmethM, hstM, habM⟩ := Cond.instanceMethod_spec hinst
  obtain ⟨m8, methM', cM, hn8, hmethM', -, -, -, -, -, -, hsigM⟩ := Cond.codeWith_spec hcode
  cases Option.some.inj (hn8.symm.trans hnamed)
  cases hmethM.symm.trans hmethM'
  obtain ⟨c2, r2, m2, q1, q2, q3, q4, kP, hkP, hkPi⟩ := Cond.selects_spec hsel
  cases hcls.symm.trans q1
  cases (State.methodFound?_of_named hnamed hy).symm.trans q2
  cases hnamed.symm.trans q3
  have hselP : selectMethod e.platform s.vm cellB.cls mk = .method mk := by rw [Launch.admits_selectMethod X.admits]; exact q4
  obtain ⟨vm₁, X₁, hstep₁⟩ := X.invokevirtual hexec hown hlink hnamed hmethM hstM hkP hkPi hy (a := b) (cell := cellB) hcell
    (fun z h => by rw [h] at hobj; cases hobj) hselP hmethM habM hkP hkPi (g := g) hg (argsL := argsL) (rest := rest) (hlen _ hsigM) hstack hdg
  rcases hK m meth c ⟨T.setVm vm₁, locs, cells, slots⟩ { g with stack := rest } (.invokevirtual index) mk (Value.ref b :: argsL).toArray X₁ hg hsize hdg hW (X₁.named hnamed) (hpre vm₁ X₁.warmed) with ⟨v, B, X', hpost, hsteps⟩ | ⟨q, B, X', hpost, hsteps⟩
  · exact Or.inl ⟨v, vm₁, B, X₁.warmed, X', hpost, fun target h => hstep₁ _ fun acts => by rw [doInvoke_state]; exact hsteps.trans h⟩
  · exact Or.inr ⟨q, vm₁, B, X₁.warmed, X', hpost, hstep₁ _ fun acts => by rw [doInvoke_state]; exact hsteps⟩
theorem vx_callSX (X : Stand p l e R s m args below meth c T locs cells slots) (hexec : p.tables.exec = Jvm.exec) {own : String} {index : Nat} {y : MethodName} {bytes : ByteArray} {maxL : Nat} {ret : Option FieldType} {hh : List (Nat × Nat × Nat × Nat)}
    (hown : s.vm.findClass own = some m.cls) (hlink : (Cond.methodLink own index y).before args s = true) (hstat : (Cond.static y).before args s = true) (hinit : (Cond.initialized y.cls).before args s = true)
    (hcode : (Cond.codeWith y bytes maxL ret hh).before args s = true) (hy : y.cls ≠ "java/lang/invoke/MethodHandle" ∧ y.cls ≠ "java/lang/invoke/VarHandle")
    {W9 : Nat} {Pre : Pt → Array Value → Prop} {Post : Pt → Array Value → Option Value → Pt → Prop} {PostX : Pt → Array Value → Addr → Pt → Prop} (hK : vx_Back l R p e below s args y 3 W9 Pre Post PostX)
    {g : JFrame} (hg : g.method = m) (hsize : g.locals.size = c.maxLocals) {argsL rest : List Value} (hlen : ∀ sig, parseMethodDescriptor y.desc = some sig → argsL.length = sig.parameters.length)
    (hstack : g.stack = argsL.reverse ++ rest) (hW : 2 * g.monitorRoom + (rest.map fun v => v.category).sum ≤ W9) (hdg : decode c.code g.pc = .ok (.invokestatic index, 3))
    (hpre : ∀ vm₁, s.WarmedH vm₁ → Pre ⟨T.setVm vm₁, locs, cells, slots⟩ argsL.toArray) :
    (∃ (v : Option Value) (vm₁ : Vm) (B : Pt), s.WarmedH vm₁ ∧ Stand p l e R s m args below meth c B.U B.locs B.cells B.slots ∧ Post ⟨T.setVm vm₁, locs, cells, slots⟩ argsL.toArray v B ∧
      ∀ target, Steps p.tables e below (B.U.setTop { g with pc := g.pc + 3, stack := v.toList ++ rest }) target → Steps p.tables e below (T.setTop g) target) ∨
    (∃ (q : Addr) (vm₁ : Vm) (B : Pt), s.WarmedH vm₁ ∧ Stand p l e R s m args below meth c B.U B.locs B.cells B.slots ∧ PostX ⟨T.setVm vm₁, locs, cells, slots⟩ argsL.toArray q B ∧
      Steps p.tables e below (T.setTop g) ((B.U.setTop { g with stack := rest }).pushFrame (.throwing q))) := by
  obtain ⟨mk, methM, cM, hnamed, hmethM, -, -, -, -, -, -, hsigM⟩ := Cond.codeWith_spec hcode
  have hstatic : methM.isStatic = true := Cond.static_spec hnamed hmethM hstat
  obtain ⟨kP, hkP, -⟩ := className_of_methodNamed hnamed
  have hinitP : kP.init = .initialized := Cond.initialized_spec (findClass_of_methodNamed hnamed) hkP hinit
  obtain ⟨vm₁, X₁, hstep₁⟩ := X.invokestatic hexec hown hlink hnamed hmethM hstatic hkP hinitP hy (g := g) hg (argsL := argsL) (rest := rest) (hlen _ hsigM) hstack hdg
  rcases hK m meth c ⟨T.setVm vm₁, locs, cells, slots⟩ { g with stack := rest } (.invokestatic index) mk argsL.toArray X₁ hg hsize hdg hW (X₁.named hnamed) (hpre vm₁ X₁.warmed) with ⟨v, B, X', hpost, hsteps⟩ | ⟨q, B, X', hpost, hsteps⟩
  · exact Or.inl ⟨v, vm₁, B, X₁.warmed, X', hpost, fun target h => hstep₁ _ fun acts => by rw [doInvoke_state]; exact hsteps.trans h⟩
  · exact Or.inr ⟨q, vm₁, B, X₁.warmed, X', hpost, hstep₁ _ fun acts => by rw [doInvoke_state]; exact hsteps⟩
theorem vx_callVW (X : Stand p l e R s m args below meth c T locs cells slots) (hexec : p.tables.exec = Jvm.exec) {own C : String} {index : Nat} {y : MethodName} {bytes : ByteArray} {maxL : Nat} {ret : Option FieldType} {hh : List (Nat × Nat × Nat × Nat)}
    (hown : s.vm.findClass own = some m.cls) (hlink : (Cond.methodLink own index y).before args s = true) (hinst : (Cond.instanceMethod y).before args s = true) (hsel : (Cond.selects C y y).before args s = true)
    (hcode : (Cond.codeWith y bytes maxL ret hh).before args s = true) (hy : y.cls ≠ "java/lang/invoke/MethodHandle" ∧ y.cls ≠ "java/lang/invoke/VarHandle")
    {W9 : Nat} {Pre : Pt → Array Value → Prop} {Post : Pt → Array Value → Option Value → Pt → Prop} (hK : Back l R p e below s args y 3 W9 Pre Post)
    {b : Addr} {cellB : Cell} (hcell : T.heap[b]? = some cellB) (hobj : cellB.vm.isStatics = false) (hcls : s.vm.findClass C = some cellB.cls)
    {g : JFrame} (hg : g.method = m) (hsize : g.locals.size = c.maxLocals) {argsL rest : List Value} (hlen : ∀ sig, parseMethodDescriptor y.desc = some sig → argsL.length = sig.parameters.length)
    (hstack : g.stack = argsL.reverse ++ .ref b :: rest) (hW : 2 * g.monitorRoom + (rest.map fun v => v.category).sum ≤ W9) (hdg : decode c.code g.pc = .ok (.invokevirtual index, 3))
    (hpre : ∀ vm₁, s.WarmedH vm₁ → Pre ⟨T.setVm vm₁, locs, cells, slots⟩ (Value.ref b :: argsL).toArray) :
    ∃ (v : Option Value) (vm₁ : Vm) (B : Pt), s.WarmedH vm₁ ∧ Stand p l e R s m args below meth c B.U B.locs B.cells B.slots ∧ Post ⟨T.setVm vm₁, locs, cells, slots⟩ (Value.ref b :: argsL).toArray v B ∧
      ∀ target, Steps p.tables e below (B.U.setTop { g with pc := g.pc + 3, stack := v.toList ++ rest }) target → Steps p.tables e below (T.setTop g) target := by
  obtain ⟨mk, methM, hnamed, hmethM, hstM, habM⟩ := Cond.instanceMethod_spec hinst
  obtain ⟨m8, methM', cM, hn8, hmethM', -, -, -, -, -, -, hsigM⟩ := Cond.codeWith_spec hcode
  cases Option.some.inj (hn8.symm.trans hnamed)
  cases hmethM.symm.trans hmethM'
  obtain ⟨c2, r2, m2, q1, q2, q3, q4, kP, hkP, hkPi⟩ := Cond.selects_spec hsel
  cases hcls.symm.trans q1
  cases (State.methodFound?_of_named hnamed hy).symm.trans q2
  cases hnamed.symm.trans q3
  have hselP : selectMethod e.platform s.vm cellB.cls mk = .method mk := by rw [Launch.admits_selectMethod X.admits]; exact q4
  obtain ⟨vm₁, X₁, hstep₁⟩ := X.invokevirtual hexec hown hlink hnamed hmethM hstM hkP hkPi hy (a := b) (cell := cellB) hcell
    (fun z h => by rw [h] at hobj; cases hobj) hselP hmethM habM hkP hkPi (g := g) hg (argsL := argsL) (rest := rest) (hlen _ hsigM) hstack hdg
  obtain ⟨v, B, X', hpost, hsteps⟩ := hK m meth c ⟨T.setVm vm₁, locs, cells, slots⟩ { g with stack := rest } (.invokevirtual index) mk (Value.ref b :: argsL).toArray X₁ hg hsize hdg hW (X₁.named hnamed) (hpre vm₁ X₁.warmed)
  exact ⟨v, vm₁, B, X₁.warmed, X', hpost, fun target h => hstep₁ _ fun acts => by rw [doInvoke_state]; exact hsteps.trans h⟩
abbrev vx_CVW (R : Room) (s : State) (args : Array Value) (own C : String) (index : Nat) (y : MethodName) (bytes : ByteArray) (maxL : Nat) (ret : Option FieldType) (hh : List (Nat × Nat × Nat × Nat)) (ws : List Cond) (rm : Room) (mc ms n : Nat) : Prop :=
  (rm.cells = mc ∧ rm.slots = ms ∧ rm.frames + 1 ≤ R.frames ∧ 8 + (maxL + 11) + rm.locals ≤ R.locals ∧ (∀ w ∈ ws, ∀ (a' : Array Value) (U : State), s.WarmedH U.vm → w.before a' U = true) ∧ Cond.codeWith y bytes maxL ret hh ∈ ws) ∧
  (Cond.codeWith y bytes maxL ret hh).before args s = true ∧ (Cond.initialized y.cls).before args s = true ∧ (y.cls ≠ "java/lang/invoke/MethodHandle" ∧ y.cls ≠ "java/lang/invoke/VarHandle") ∧
  (∀ sig, parseMethodDescriptor y.desc = some sig → n = sig.parameters.length) ∧ (Cond.methodLink own index y).before args s = true ∧ (Cond.instanceMethod y).before args s = true ∧ (Cond.selects C y y).before args s = true
theorem vx_cwVW {own C : String} {index maxL mc ms : Nat} {y : MethodName} {bytes : ByteArray} {ret : Option FieldType} {hh : List (Nat × Nat × Nat × Nat)} {Ts ws ws' : List Cond} {rm : Room} (n : Nat) (ht : ∀ w ∈ Ts, w.before args s = true) (hT : GoodIn Ts (wsV own index C y ws)) (hw : ws = Cond.codeWith y bytes maxL ret hh :: ws') (hrc : rm.cells = mc) (hrs : rm.slots = ms)
    (hd : y.cls = C ∧ y.cls ≠ "java/lang/invoke/MethodHandle" ∧ y.cls ≠ "java/lang/invoke/VarHandle" ∧ (parseMethodDescriptor y.desc).map (fun d => d.parameters.length) = some n) (hR : rm.frames + 1 ≤ R.frames ∧ 8 + (maxL + 11) + rm.locals ≤ R.locals) :
    vx_CVW R s args own C index y bytes maxL ret hh ws rm mc ms n := by
  obtain ⟨hC, hd⟩ := hd
  subst hC
  have ok : ∀ w ∈ wsV own index y.cls y ws, w.before args s = true := fun w h => ht w (hT w h).1
  have hG : GoodIn Ts ws := fun w h => hT w (by unfold wsV; exact List.mem_append_right _ h)
  have hc : Cond.codeWith y bytes maxL ret hh ∈ ws := by rw [hw]; exact List.mem_cons_self
  refine ⟨⟨hrc, hrs, hR.1, hR.2, pay_in ht hG, hc⟩, ht _ (hG _ hc).1, ok _ (by simp [wsV]), ⟨hd.1, hd.2.1⟩, fun sig h => ?_, ok _ (by simp [wsV]), ok _ (by simp [wsV]), ok _ (by simp [wsV])⟩
  have h2 := hd.2.2
  rw [h] at h2
  exact (Option.some.inj h2).symm
theorem vx_runVW {y : MethodName} {bytes cc : ByteArray} {maxL nL mc ms n index : Nat} {ret : Option FieldType} {hh : List (Nat × Nat × Nat × Nat)} {ws : List Cond} {rm : Room} {Pc : Array Value → State → Prop} {Qc : Array Value → State → Outcome → State → Prop} {free : Addr → Prop} {Ts : List Cond} {own C : String} {b : Addr} {As rest : List Value} {g : JFrame}
    (S : CallFix p m c cc nL s args Ts own) (hM : Met l y ws rm Pc Qc mc ms free) (cw : vx_CVW R s args own C index y bytes maxL ret hh ws rm mc ms n) (hp : PreV s H C b Pc As)
    (hg : g.method = m) (hn : As.length = n) (hsize : g.locals.size = nL) (hstack : g.stack = As.reverse ++ .ref b :: rest) (hW : 2 * g.monitorRoom + (rest.map fun v => v.category).sum ≤ 8) (hdg : decode cc g.pc = .ok (.invokevirtual index, 3)) (hf : cells + mc ≤ R.cells ∧ slots + ms ≤ R.slots) :
    va_Run p l e R s m args below meth c H locs cells slots mc ms g rest (Qc (Value.ref b :: As).toArray) free := by
  obtain ⟨⟨hrc, hrs, hfr, hlo, hws, hcw⟩, hcode, hini, hy, hlen, hl, hin, hse⟩ := cw
  have hK : Back l R p e below s args y 3 8 (PreOf R mc ms Pc) (PostOf Qc mc ms free) := va_backW (hh := hh) (bytes := bytes) (maxL := maxL) (ret := ret) hM hp.1 hrc hrs hfr hlo hws hcw (fun a' U hW => word_at hW (Or.inl (by first | rfl | simp [Cond.onTables, Cond.keeps, Cond.steady])) hini)
  obtain ⟨hx, hb, hml, ho, -⟩ := S
  obtain ⟨-, ⟨cellB, hcB, hoB, hclB⟩, hPc⟩ := hp
  intro T hT X
  obtain ⟨v, vm₁, ⟨U', l2, c2, s2⟩, hW₁, X', ⟨g', mk, t, L, e1, e2, hq, h1, hL, h2, h3⟩, st⟩ := vx_callVW X hx (C := C) (hh := hh) (bytes := bytes) (maxL := maxL) (ret := ret) ho hl hin hse hcode hy hK (by rw [hT]; exact hcB) hoB hclB hg (hsize.trans hml.symm) (argsL := As) (rest := rest) (fun sig h => hn.trans (hlen sig h)) hstack hW (by rw [hb]; exact hdg)
    (fun vm₁ hW₁ => ⟨hf.1, hf.2, hPc (T.setVm vm₁) hT hW₁⟩)
  dsimp only [Pt.U, Pt.locs, Pt.cells, Pt.slots] at X' e1 e2 h1 h2 h3 st
  subst h1; subst h2; subst h3
  exact ⟨v, (T.setVm vm₁).calling g' mk (Value.ref b :: As).toArray, t, U', L, hT, X', hL, e1, e2, hq, st⟩
section
variable {y : MethodName} {bytes cc : ByteArray} {maxL nL mc ms n index : Nat} {ret : Option FieldType} {ws : List Cond} {rm : Room} {Pc : Array Value → State → Prop} {Qc : Array Value → State → Outcome → State → Prop} {XC : String → State → State → Prop} {free : Addr → Prop} {Ts : List Cond} {own C : String} {b : Addr} {As rest : List Value} {g : JFrame}
theorem vx_runVX {hh : List (Nat × Nat × Nat × Nat)} (S : CallFix p m c cc nL s args Ts own) (hM : vx_Met l y ws rm Pc Qc XC mc ms free) (cw : vx_CVW R s args own C index y bytes maxL ret hh ws rm mc ms n) (hp : PreV s H C b Pc As)
    (hg : g.method = m) (hn : As.length = n) (hsize : g.locals.size = nL) (hstack : g.stack = As.reverse ++ .ref b :: rest) (hW : 2 * g.monitorRoom + (rest.map fun v => v.category).sum ≤ 8) (hdg : decode cc g.pc = .ok (.invokevirtual index, 3)) (hf : cells + mc ≤ R.cells ∧ slots + ms ≤ R.slots) :
    vx_Run p l e R s m args below meth c H locs cells slots mc ms g rest (Qc (Value.ref b :: As).toArray) XC free := by
  obtain ⟨⟨hrc, hrs, hfr, hlo, hws, hcw⟩, hcode, hini, hy, hlen, hl, hin, hse⟩ := cw
  have hK : vx_Back l R p e below s args y 3 8 (PreOf R mc ms Pc) (PostOf Qc mc ms free) (vx_Post XC mc ms free) := vx_backW (hh := hh) (bytes := bytes) (maxL := maxL) (ret := ret) hM hp.1 hrc hrs hfr hlo hws hcw (fun a' U hW => word_at hW (Or.inl (by first | rfl | simp [Cond.onTables, Cond.keeps, Cond.steady])) hini)
  obtain ⟨hx, hb, hml, ho, -⟩ := S
  obtain ⟨-, ⟨cellB, hcB, hoB, hclB⟩, hPc⟩ := hp
  intro T hT X
  rcases vx_callVX X hx (C := C) (hh := hh) (bytes := bytes) (maxL := maxL) (ret := ret) ho hl hin hse hcode hy hK (by rw [hT]; exact hcB) hoB hclB hg (hsize.trans hml.symm) (argsL := As) (rest := rest) (fun sig h => hn.trans (hlen sig h)) hstack hW (by rw [hb]; exact hdg)
    (fun vm₁ hW₁ => ⟨hf.1, hf.2, hPc (T.setVm vm₁) hT hW₁⟩) with ⟨v, vm₁, ⟨U', l2, c2, s2⟩, hW₁, X', ⟨g', mk, t, L, e1, e2, hq, h1, hL, h2, h3⟩, st⟩ | ⟨q, vm₁, ⟨U', l2, c2, s2⟩, hW₁, X', ⟨g', mk, t, L, E, ce, e1, e2, hq, hce, hcv, hcl, h1, hL, h2, h3⟩, st⟩
  · dsimp only [Pt.U, Pt.locs, Pt.cells, Pt.slots] at X' e1 e2 h1 h2 h3 st
    subst h1; subst h2; subst h3
    exact Or.inl ⟨v, (T.setVm vm₁).calling g' mk (Value.ref b :: As).toArray, t, U', L, hT, X', hL, e1, e2, hq, st⟩
  · dsimp only [Pt.U, Pt.locs, Pt.cells, Pt.slots] at X' e1 e2 h1 h2 h3 st hcl
    subst h1; subst h2; subst h3
    exact Or.inr ⟨q, (T.setVm vm₁).calling g' mk (Value.ref b :: As).toArray, t, U', L, E, ce, hT, X', hL, e1, e2, hq, hce, hcv, vx_cls hW₁ hcl, st⟩
theorem vx_runSX {hh : List (Nat × Nat × Nat × Nat)} (S : CallFix p m c cc nL s args Ts own) (hM : vx_Met l y ws rm Pc Qc XC mc ms free) (cw : vx_CSW R s args own index y bytes maxL ret hh ws rm mc ms n) (hp : PreS s H Pc As)
    (hg : g.method = m) (hn : As.length = n) (hsize : g.locals.size = nL) (hstack : g.stack = As.reverse ++ rest) (hW : 2 * g.monitorRoom + (rest.map fun v => v.category).sum ≤ 8) (hdg : decode cc g.pc = .ok (.invokestatic index, 3)) (hf : cells + mc ≤ R.cells ∧ slots + ms ≤ R.slots) :
    vx_Run p l e R s m args below meth c H locs cells slots mc ms g rest (Qc As.toArray) XC free := by
  obtain ⟨⟨hrc, hrs, hfr, hlo, hws, hcw⟩, hcode, hini, hy, hlen, hl, hstt⟩ := cw
  have hK : vx_Back l R p e below s args y 3 8 (PreOf R mc ms Pc) (PostOf Qc mc ms free) (vx_Post XC mc ms free) := vx_backW (hh := hh) (bytes := bytes) (maxL := maxL) (ret := ret) hM hp.1 hrc hrs hfr hlo hws hcw (fun a' U hW => word_at hW (Or.inl (by first | rfl | simp [Cond.onTables, Cond.keeps, Cond.steady])) hini)
  obtain ⟨hx, hb, hml, ho, -⟩ := S
  intro T hT X
  rcases vx_callSX X hx (hh := hh) (bytes := bytes) (maxL := maxL) (ret := ret) ho hl hstt hini hcode hy hK hg (hsize.trans hml.symm) (argsL := As) (rest := rest) (fun sig h => hn.trans (hlen sig h)) hstack hW (by rw [hb]; exact hdg)
    (fun vm₁ hW₁ => ⟨hf.1, hf.2, hp.2 (T.setVm vm₁) hT hW₁⟩) with ⟨v, vm₁, ⟨U', l2, c2, s2⟩, hW₁, X', ⟨g', mk, t, L, e1, e2, hq, h1, hL, h2, h3⟩, st⟩ | ⟨q, vm₁, ⟨U', l2, c2, s2⟩, hW₁, X', ⟨g', mk, t, L, E, ce, e1, e2, hq, hce, hcv, hcl, h1, hL, h2, h3⟩, st⟩
  · dsimp only [Pt.U, Pt.locs, Pt.cells, Pt.slots] at X' e1 e2 h1 h2 h3 st
    subst h1; subst h2; subst h3
    exact Or.inl ⟨v, (T.setVm vm₁).calling g' mk As.toArray, t, U', L, hT, X', hL, e1, e2, hq, st⟩
  · dsimp only [Pt.U, Pt.locs, Pt.cells, Pt.slots] at X' e1 e2 h1 h2 h3 st hcl
    subst h1; subst h2; subst h3
    exact Or.inr ⟨q, (T.setVm vm₁).calling g' mk As.toArray, t, U', L, E, ce, hT, X', hL, e1, e2, hq, hce, hcv, vx_cls hW₁ hcl, st⟩
end
end VXH
theorem vx_ofWH {l : Launch} {y : MethodName} {ws ws' : List Cond} {rm : Room} {Pc : Array Value → State → Prop} {Qc : Array Value → State → Outcome → State → Prop} {XC : String → State → State → Prop} {mc ms : Nat} {free : Addr → Prop} {cc : ByteArray} {maxL : Nat} {ret : Option FieldType} {hh : List (Nat × Nat × Nat × Nat)}
    (hy : plainName y.cls = true) (hw : ws = Cond.codeWith y cc maxL ret hh :: ws')
    (body : ∀ p e s m args below meth c s₁, BodyLoose p l y (headSpec ws rm) cc maxL ret e s m args below meth c s₁ → c.maxLocals = maxL → Pc args s →
      W p l e (headSpec ws rm).room s m args below meth c s.heap [] 0 0 (vx_MQ below Qc XC args s mc ms free) (entryFrame m args maxL)) : vx_Met l y ws rm Pc Qc XC mc ms free := by
  refine MetFree.of_bodyS (code := cc) (maxLocals := maxL) (ret := ret) hy ?_ ?_
  · intro args s m h hn
    obtain ⟨m9, meth, c, hn9, h1, h2, h3, h4, -, h5, h6, -⟩ := Cond.codeWith_spec (atoms_spec (ws := ws) h _ (by rw [hw]; exact List.mem_cons_self))
    cases hn.symm.trans hn9
    exact ⟨meth, c, h1, h2, h3, h4, h5, h6⟩
  · intro p e s m args below meth c s₁ B hml hP _
    have hh0 : s₁.heap = s.heap := by rw [B.state]; rfl
    obtain ⟨t, a1, o, b1, b2, b3⟩ := body p e s m args below meth c s₁ B hml hP s₁ hh0 (Stand.of_body B)
    exact ⟨t, o, a1, b1, b2, b3⟩
/-! ===== END ===== -/
end
section
def RX0 : String := "Shredroll$Crate"
def TX0 : u_T := fun k => match k with
  | 0 => ("Shredroll$Crate", "number", "I", true)
  | 1 => ("Shredroll$Crate", "keeper", "I", false)
  | 2 => ("Shredroll$Crate", "seal", "I", false)
  | _ => ("Shredroll$Crate", "remembered", "I", false)
def tyX0 : Nat → FieldType := fun k => match k with
  | 0 => .int
  | 1 => .int
  | 2 => .int
  | _ => .int
abbrev wsX00 : List Cond := u_ws RX0 TX0 4
theorem nmX0 : ∀ a, a < 4 → ∀ b, b < 4 → a ≠ b → (TX0 a).2.1 ≠ (TX0 b).2.1 := by decide +kernel
theorem tyX0_ok : ∀ k, k < 4 → parseFieldDescriptor (TX0 k).2.2.1 = some (tyX0 k) := by decide +kernel
abbrev cX0_init : ByteArray := prog_2_method_1_code
def yX0_init : MethodName := ⟨RX0, "<init>", "(I)V"⟩
abbrev cX0_isSealed : ByteArray := prog_2_method_2_code
def yX0_isSealed : MethodName := ⟨RX0, "isSealed", "()Z"⟩
def RX1 : String := "Shredroll$Disk"
def TX1 : u_T := fun k => match k with
  | 0 => ("Shredroll$Disk", "kind", "I", true)
  | 1 => ("Shredroll$Disk", "secrecy", "I", true)
  | 2 => ("Shredroll$Disk", "keeper", "I", false)
  | 3 => ("Shredroll$Disk", "loggedKeeper", "I", false)
  | 4 => ("Shredroll$Disk", "crate", "LShredroll$Crate;", false)
  | 5 => ("Shredroll$Disk", "offeredTo", "I", false)
  | 6 => ("Shredroll$Disk", "state", "I", false)
  | 7 => ("Shredroll$Disk", "doer", "I", false)
  | 8 => ("Shredroll$Disk", "isFoundGood", "Z", false)
  | 9 => ("Shredroll$Disk", "isMissing", "Z", false)
  | _ => ("Shredroll$Disk", "certificate", "I", false)
def tyX1 : Nat → FieldType := fun k => match k with
  | 0 => .int
  | 1 => .int
  | 2 => .int
  | 3 => .int
  | 4 => .object "Shredroll$Crate"
  | 5 => .int
  | 6 => .int
  | 7 => .int
  | 8 => .boolean
  | 9 => .boolean
  | _ => .int
abbrev wsX10 : List Cond := u_ws RX1 TX1 11
theorem nmX1 : ∀ a, a < 11 → ∀ b, b < 11 → a ≠ b → (TX1 a).2.1 ≠ (TX1 b).2.1 := by decide +kernel
theorem tyX1_ok : ∀ k, k < 11 → parseFieldDescriptor (TX1 k).2.2.1 = some (tyX1 k) := by decide +kernel
abbrev cX1_init : ByteArray := prog_3_method_1_code
def yX1_init : MethodName := ⟨RX1, "<init>", "(II)V"⟩
abbrev cX1_crateNumber : ByteArray := prog_3_method_2_code
def yX1_crateNumber : MethodName := ⟨RX1, "crateNumber", "()I"⟩
abbrev cX1_isSealedIn : ByteArray := prog_3_method_3_code
def yX1_isSealedIn : MethodName := ⟨RX1, "isSealedIn", "()Z"⟩
abbrev cX1_isFinished : ByteArray := prog_3_method_4_code
def yX1_isFinished : MethodName := ⟨RX1, "isFinished", "()Z"⟩
abbrev cX1_awaitsCertificate : ByteArray := prog_3_method_5_code
def yX1_awaitsCertificate : MethodName := ⟨RX1, "awaitsCertificate", "()Z"⟩
def RX2 : String := "Shredroll"
def TX2 : u_T := fun k => match k with
  | 0 => ("Shredroll", "broughtDisks", "[LShredroll$Disk;", true)
  | 1 => ("Shredroll", "allCrates", "[LShredroll$Crate;", true)
  | 2 => ("Shredroll", "diskCount", "I", false)
  | 3 => ("Shredroll", "sealCount", "I", false)
  | 4 => ("Shredroll", "oddCount", "I", false)
  | 5 => ("Shredroll", "logCount", "I", false)
  | _ => ("Shredroll", "certificateCount", "I", false)
def tyX2 : Nat → FieldType := fun k => match k with
  | 0 => .array (.object "Shredroll$Disk")
  | 1 => .array (.object "Shredroll$Crate")
  | 2 => .int
  | 3 => .int
  | 4 => .int
  | 5 => .int
  | _ => .int
abbrev wsX20 : List Cond := u_ws RX2 TX2 7
theorem nmX2 : ∀ a, a < 7 → ∀ b, b < 7 → a ≠ b → (TX2 a).2.1 ≠ (TX2 b).2.1 := by decide +kernel
theorem tyX2_ok : ∀ k, k < 7 → parseFieldDescriptor (TX2 k).2.2.1 = some (tyX2 k) := by decide +kernel
abbrev cX2_init : ByteArray := prog_1_method_1_code
def yX2_init : MethodName := ⟨RX2, "<init>", "()V"⟩
abbrev cX2_bring : ByteArray := prog_1_method_2_code
def yX2_bring : MethodName := ⟨RX2, "bring", "(III)I"⟩
abbrev cX2_offer : ByteArray := prog_1_method_3_code
def yX2_offer : MethodName := ⟨RX2, "offer", "(II)I"⟩
abbrev cX2_answer : ByteArray := prog_1_method_4_code
def yX2_answer : MethodName := ⟨RX2, "answer", "(IZ)I"⟩
abbrev cX2_pack : ByteArray := prog_1_method_5_code
def yX2_pack : MethodName := ⟨RX2, "pack", "(II)I"⟩
abbrev cX2_unpack : ByteArray := prog_1_method_6_code
def yX2_unpack : MethodName := ⟨RX2, "unpack", "(I)I"⟩
abbrev cX2_seal : ByteArray := prog_1_method_7_code
def yX2_seal : MethodName := ⟨RX2, "seal", "(I)I"⟩
abbrev cX2_open : ByteArray := prog_1_method_8_code
def yX2_open : MethodName := ⟨RX2, "open", "(II)I"⟩
abbrev cX2_carry : ByteArray := prog_1_method_9_code
def yX2_carry : MethodName := ⟨RX2, "carry", "(II)I"⟩
abbrev cX2_wipe : ByteArray := prog_1_method_10_code
def yX2_wipe : MethodName := ⟨RX2, "wipe", "(III)I"⟩
abbrev cX2_smash : ByteArray := prog_1_method_11_code
def yX2_smash : MethodName := ⟨RX2, "smash", "(II)I"⟩
abbrev cX2_check : ByteArray := prog_1_method_12_code
def yX2_check : MethodName := ⟨RX2, "check", "(IIZ)I"⟩
abbrev cX2_lose : ByteArray := prog_1_method_13_code
def yX2_lose : MethodName := ⟨RX2, "lose", "(I)I"⟩
abbrev cX2_find : ByteArray := prog_1_method_14_code
def yX2_find : MethodName := ⟨RX2, "find", "(I)I"⟩
abbrev cX2_certify : ByteArray := prog_1_method_15_code
def yX2_certify : MethodName := ⟨RX2, "certify", "(I)I"⟩
abbrev cX2_disks : ByteArray := prog_1_method_16_code
def yX2_disks : MethodName := ⟨RX2, "disks", "()I"⟩
abbrev cX2_keeperOf : ByteArray := prog_1_method_17_code
def yX2_keeperOf : MethodName := ⟨RX2, "keeperOf", "(I)I"⟩
abbrev cX2_keeperByLog : ByteArray := prog_1_method_18_code
def yX2_keeperByLog : MethodName := ⟨RX2, "keeperByLog", "(I)I"⟩
abbrev cX2_crateOf : ByteArray := prog_1_method_19_code
def yX2_crateOf : MethodName := ⟨RX2, "crateOf", "(I)I"⟩
abbrev cX2_stateOf : ByteArray := prog_1_method_20_code
def yX2_stateOf : MethodName := ⟨RX2, "stateOf", "(I)I"⟩
abbrev cX2_isDone : ByteArray := prog_1_method_21_code
def yX2_isDone : MethodName := ⟨RX2, "isDone", "(I)Z"⟩
abbrev cX2_offeredTo : ByteArray := prog_1_method_22_code
def yX2_offeredTo : MethodName := ⟨RX2, "offeredTo", "(I)I"⟩
abbrev cX2_certificateOf : ByteArray := prog_1_method_23_code
def yX2_certificateOf : MethodName := ⟨RX2, "certificateOf", "(I)I"⟩
abbrev cX2_crateKeeper : ByteArray := prog_1_method_24_code
def yX2_crateKeeper : MethodName := ⟨RX2, "crateKeeper", "(I)I"⟩
abbrev cX2_sealOf : ByteArray := prog_1_method_25_code
def yX2_sealOf : MethodName := ⟨RX2, "sealOf", "(I)I"⟩
abbrev cX2_has : ByteArray := prog_1_method_26_code
def yX2_has : MethodName := ⟨RX2, "has", "(I)I"⟩
abbrev cX2_missing : ByteArray := prog_1_method_27_code
def yX2_missing : MethodName := ⟨RX2, "missing", "()I"⟩
abbrev cX2_oddCounts : ByteArray := prog_1_method_28_code
def yX2_oddCounts : MethodName := ⟨RX2, "oddCounts", "()I"⟩
abbrev cX2_logged : ByteArray := prog_1_method_29_code
def yX2_logged : MethodName := ⟨RX2, "logged", "()I"⟩
abbrev cX2_certificates : ByteArray := prog_1_method_30_code
def yX2_certificates : MethodName := ⟨RX2, "certificates", "()I"⟩
abbrev cX2_findDisk : ByteArray := prog_1_method_31_code
def yX2_findDisk : MethodName := ⟨RX2, "findDisk", "(I)LShredroll$Disk;"⟩
abbrev cX2_findCrate : ByteArray := prog_1_method_32_code
def yX2_findCrate : MethodName := ⟨RX2, "findCrate", "(I)LShredroll$Crate;"⟩
abbrev cX2_countDisksIn : ByteArray := prog_1_method_33_code
def yX2_countDisksIn : MethodName := ⟨RX2, "countDisksIn", "(LShredroll$Crate;)I"⟩
abbrev cX2_handOverDisksIn : ByteArray := prog_1_method_34_code
def yX2_handOverDisksIn : MethodName := ⟨RX2, "handOverDisksIn", "(LShredroll$Crate;)V"⟩
abbrev cX2_handOver : ByteArray := prog_1_method_35_code
def yX2_handOver : MethodName := ⟨RX2, "handOver", "(LShredroll$Disk;I)V"⟩
abbrev cX2_requireKeeper : ByteArray := prog_1_method_36_code
def yX2_requireKeeper : MethodName := ⟨RX2, "requireKeeper", "(I)V"⟩
abbrev cX2_requireLoose : ByteArray := prog_1_method_37_code
def yX2_requireLoose : MethodName := ⟨RX2, "requireLoose", "(LShredroll$Disk;)V"⟩
abbrev cX2_requireWithinReach : ByteArray := prog_1_method_38_code
def yX2_requireWithinReach : MethodName := ⟨RX2, "requireWithinReach", "(LShredroll$Disk;)V"⟩
abbrev cX2_requireWitnessIsNotKeeper : ByteArray := prog_1_method_39_code
def yX2_requireWitnessIsNotKeeper : MethodName := ⟨RX2, "requireWitnessIsNotKeeper", "(LShredroll$Disk;I)V"⟩
def RX3 : String := "ShredrollModel"
def TX3 : u_T := fun k => match k with
  | _ => ("", "", "", false)
def tyX3 : Nat → FieldType := fun k => match k with
  | _ => .int
abbrev wsX30 : List Cond := u_ws RX3 TX3 0
theorem nmX3 : ∀ a, a < 0 → ∀ b, b < 0 → a ≠ b → (TX3 a).2.1 ≠ (TX3 b).2.1 := by decide +kernel
theorem tyX3_ok : ∀ k, k < 0 → parseFieldDescriptor (TX3 k).2.2.1 = some (tyX3 k) := by decide +kernel
def RJ0 : String := "java/lang/String"
def RL : String := "ShredrollLaw"
abbrev cL_draw : ByteArray := method_2_code
def yL_draw : MethodName := ⟨RL, "draw", "([III)I"⟩
abbrev cL_asks : ByteArray := method_3_code
def yL_asks : MethodName := ⟨RL, "asks", "(LShredroll;IIII)I"⟩
abbrev cL_disk : ByteArray := method_4_code
def yL_disk : MethodName := ⟨RL, "disk", "(LShredroll;I)I"⟩
abbrev cL_all : ByteArray := method_5_code
def yL_all : MethodName := ⟨RL, "all", "(LShredroll;[I[I)V"⟩
abbrev cL_areSame : ByteArray := method_6_code
def yL_areSame : MethodName := ⟨RL, "areSame", "(LShredroll;[I[IJ)Z"⟩
abbrev cL_isMissing : ByteArray := method_7_code
def yL_isMissing : MethodName := ⟨RL, "isMissing", "([JI)Z"⟩
abbrev cL_isShut : ByteArray := method_8_code
def yL_isShut : MethodName := ⟨RL, "isShut", "(LShredroll;I)Z"⟩
abbrev cL_isFree : ByteArray := method_9_code
def yL_isFree : MethodName := ⟨RL, "isFree", "(LShredroll;[JI)Z"⟩
abbrev cL_countIn : ByteArray := method_10_code
def yL_countIn : MethodName := ⟨RL, "countIn", "(LShredroll;[II)I"⟩
abbrev cL_isBook : ByteArray := method_11_code
def yL_isBook : MethodName := ⟨RL, "isBook", "(LShredroll;[I[J)Z"⟩
abbrev cL_hands : ByteArray := method_12_code
def yL_hands : MethodName := ⟨RL, "hands", "(LShredroll;III[I[I[J)Z"⟩
abbrev cL_packs : ByteArray := method_13_code
def yL_packs : MethodName := ⟨RL, "packs", "(LShredroll;III[I[I[J)Z"⟩
abbrev cL_works : ByteArray := method_14_code
def yL_works : MethodName := ⟨RL, "works", "(LShredroll;IIII[I[I[I[J[I)Z"⟩
abbrev cL_loses : ByteArray := method_15_code
def yL_loses : MethodName := ⟨RL, "loses", "(LShredroll;II[I[I[J)Z"⟩
abbrev cL_crates : ByteArray := method_16_code
def yL_crates : MethodName := ⟨RL, "crates", "(LShredroll;III[I[I[I)Z"⟩
abbrev cL_certifies : ByteArray := method_17_code
def yL_certifies : MethodName := ⟨RL, "certifies", "(LShredroll;I[I[I[J)Z"⟩
abbrev cL_step : ByteArray := method_18_code
def yL_step : MethodName := ⟨RL, "step", "(LShredroll;III[I[I[I[I[I[J)Z"⟩
abbrev cL_book : ByteArray := method_19_code
def yL_book : MethodName := ⟨RL, "book", "([II)Z"⟩
abbrev cL_law : ByteArray := code
def yL_law : MethodName := ⟨RL, "law", "([I)Z"⟩
abbrev vwCl : List vw_C := [(RX0, TX0, 4), (RX1, TX1, 11), (RX2, TX2, 7)]
end
section
theorem dX0_init_0 : decode cX0_init 0 = .ok (.aload_n 0, 1) := by decide +kernel
theorem dX0_init_1 : decode cX0_init 1 = .ok (.invokespecial 3, 3) := by decide +kernel
theorem dX0_init_4 : decode cX0_init 4 = .ok (.aload_n 0, 1) := by decide +kernel
theorem dX0_init_5 : decode cX0_init 5 = .ok (.iconst (-1), 1) := by decide +kernel
theorem dX0_init_6 : decode cX0_init 6 = .ok (.putfield 9, 3) := by decide +kernel
theorem dX0_init_9 : decode cX0_init 9 = .ok (.aload_n 0, 1) := by decide +kernel
theorem dX0_init_10 : decode cX0_init 10 = .ok (.iload_n 1, 1) := by decide +kernel
theorem dX0_init_11 : decode cX0_init 11 = .ok (.putfield 15, 3) := by decide +kernel
theorem dX0_init_14 : decode cX0_init 14 = .ok (.return_, 1) := by decide +kernel
theorem dX0_isSealed_0 : decode cX0_isSealed 0 = .ok (.aload_n 0, 1) := by decide +kernel
theorem dX0_isSealed_1 : decode cX0_isSealed 1 = .ok (.getfield 9, 3) := by decide +kernel
theorem dX0_isSealed_4 : decode cX0_isSealed 4 = .ok (.iconst (-1), 1) := by decide +kernel
theorem dX0_isSealed_5 : decode cX0_isSealed 5 = .ok (.if_icmp .eq 7, 3) := by decide +kernel
theorem dX0_isSealed_8 : decode cX0_isSealed 8 = .ok (.iconst 1, 1) := by decide +kernel
theorem dX0_isSealed_9 : decode cX0_isSealed 9 = .ok (.goto 4, 3) := by decide +kernel
theorem dX0_isSealed_12 : decode cX0_isSealed 12 = .ok (.iconst 0, 1) := by decide +kernel
theorem dX0_isSealed_13 : decode cX0_isSealed 13 = .ok (.ireturn, 1) := by decide +kernel
theorem dX1_init_0 : decode cX1_init 0 = .ok (.aload_n 0, 1) := by decide +kernel
theorem dX1_init_1 : decode cX1_init 1 = .ok (.invokespecial 3, 3) := by decide +kernel
theorem dX1_init_4 : decode cX1_init 4 = .ok (.aload_n 0, 1) := by decide +kernel
theorem dX1_init_5 : decode cX1_init 5 = .ok (.iconst (-1), 1) := by decide +kernel
theorem dX1_init_6 : decode cX1_init 6 = .ok (.putfield 9, 3) := by decide +kernel
theorem dX1_init_9 : decode cX1_init 9 = .ok (.aload_n 0, 1) := by decide +kernel
theorem dX1_init_10 : decode cX1_init 10 = .ok (.iconst 0, 1) := by decide +kernel
theorem dX1_init_11 : decode cX1_init 11 = .ok (.putfield 15, 3) := by decide +kernel
theorem dX1_init_14 : decode cX1_init 14 = .ok (.aload_n 0, 1) := by decide +kernel
theorem dX1_init_15 : decode cX1_init 15 = .ok (.iconst (-1), 1) := by decide +kernel
theorem dX1_init_16 : decode cX1_init 16 = .ok (.putfield 18, 3) := by decide +kernel
theorem dX1_init_19 : decode cX1_init 19 = .ok (.aload_n 0, 1) := by decide +kernel
theorem dX1_init_20 : decode cX1_init 20 = .ok (.iconst (-1), 1) := by decide +kernel
theorem dX1_init_21 : decode cX1_init 21 = .ok (.putfield 21, 3) := by decide +kernel
theorem dX1_init_24 : decode cX1_init 24 = .ok (.aload_n 0, 1) := by decide +kernel
theorem dX1_init_25 : decode cX1_init 25 = .ok (.iload_n 1, 1) := by decide +kernel
theorem dX1_init_26 : decode cX1_init 26 = .ok (.putfield 24, 3) := by decide +kernel
theorem dX1_init_29 : decode cX1_init 29 = .ok (.aload_n 0, 1) := by decide +kernel
theorem dX1_init_30 : decode cX1_init 30 = .ok (.iload_n 2, 1) := by decide +kernel
theorem dX1_init_31 : decode cX1_init 31 = .ok (.putfield 27, 3) := by decide +kernel
theorem dX1_init_34 : decode cX1_init 34 = .ok (.return_, 1) := by decide +kernel
theorem dX1_crateNumber_0 : decode cX1_crateNumber 0 = .ok (.aload_n 0, 1) := by decide +kernel
theorem dX1_crateNumber_1 : decode cX1_crateNumber 1 = .ok (.getfield 30, 3) := by decide +kernel
theorem dX1_crateNumber_4 : decode cX1_crateNumber 4 = .ok (.ifnonnull 7, 3) := by decide +kernel
theorem dX1_crateNumber_7 : decode cX1_crateNumber 7 = .ok (.iconst (-1), 1) := by decide +kernel
theorem dX1_crateNumber_8 : decode cX1_crateNumber 8 = .ok (.goto 10, 3) := by decide +kernel
theorem dX1_crateNumber_11 : decode cX1_crateNumber 11 = .ok (.aload_n 0, 1) := by decide +kernel
theorem dX1_crateNumber_12 : decode cX1_crateNumber 12 = .ok (.getfield 30, 3) := by decide +kernel
theorem dX1_crateNumber_15 : decode cX1_crateNumber 15 = .ok (.getfield 34, 3) := by decide +kernel
theorem dX1_crateNumber_18 : decode cX1_crateNumber 18 = .ok (.ireturn, 1) := by decide +kernel
theorem dX1_isSealedIn_0 : decode cX1_isSealedIn 0 = .ok (.aload_n 0, 1) := by decide +kernel
theorem dX1_isSealedIn_1 : decode cX1_isSealedIn 1 = .ok (.getfield 30, 3) := by decide +kernel
theorem dX1_isSealedIn_4 : decode cX1_isSealedIn 4 = .ok (.ifnull 17, 3) := by decide +kernel
theorem dX1_isSealedIn_7 : decode cX1_isSealedIn 7 = .ok (.aload_n 0, 1) := by decide +kernel
theorem dX1_isSealedIn_8 : decode cX1_isSealedIn 8 = .ok (.getfield 30, 3) := by decide +kernel
theorem dX1_isSealedIn_11 : decode cX1_isSealedIn 11 = .ok (.invokevirtual 39, 3) := by decide +kernel
theorem dX1_isSealedIn_14 : decode cX1_isSealedIn 14 = .ok (.ifCond .eq 7, 3) := by decide +kernel
theorem dX1_isSealedIn_17 : decode cX1_isSealedIn 17 = .ok (.iconst 1, 1) := by decide +kernel
theorem dX1_isSealedIn_18 : decode cX1_isSealedIn 18 = .ok (.goto 4, 3) := by decide +kernel
theorem dX1_isSealedIn_21 : decode cX1_isSealedIn 21 = .ok (.iconst 0, 1) := by decide +kernel
theorem dX1_isSealedIn_22 : decode cX1_isSealedIn 22 = .ok (.ireturn, 1) := by decide +kernel
theorem dX1_isFinished_0 : decode cX1_isFinished 0 = .ok (.aload_n 0, 1) := by decide +kernel
theorem dX1_isFinished_1 : decode cX1_isFinished 1 = .ok (.getfield 15, 3) := by decide +kernel
theorem dX1_isFinished_4 : decode cX1_isFinished 4 = .ok (.iconst 3, 1) := by decide +kernel
theorem dX1_isFinished_5 : decode cX1_isFinished 5 = .ok (.if_icmp .eq 18, 3) := by decide +kernel
theorem dX1_isFinished_8 : decode cX1_isFinished 8 = .ok (.aload_n 0, 1) := by decide +kernel
theorem dX1_isFinished_9 : decode cX1_isFinished 9 = .ok (.getfield 15, 3) := by decide +kernel
theorem dX1_isFinished_12 : decode cX1_isFinished 12 = .ok (.iconst 1, 1) := by decide +kernel
theorem dX1_isFinished_13 : decode cX1_isFinished 13 = .ok (.if_icmp .ne 14, 3) := by decide +kernel
theorem dX1_isFinished_16 : decode cX1_isFinished 16 = .ok (.aload_n 0, 1) := by decide +kernel
theorem dX1_isFinished_17 : decode cX1_isFinished 17 = .ok (.getfield 43, 3) := by decide +kernel
theorem dX1_isFinished_20 : decode cX1_isFinished 20 = .ok (.ifCond .eq 7, 3) := by decide +kernel
theorem dX1_isFinished_23 : decode cX1_isFinished 23 = .ok (.iconst 1, 1) := by decide +kernel
theorem dX1_isFinished_24 : decode cX1_isFinished 24 = .ok (.goto 4, 3) := by decide +kernel
theorem dX1_isFinished_27 : decode cX1_isFinished 27 = .ok (.iconst 0, 1) := by decide +kernel
theorem dX1_isFinished_28 : decode cX1_isFinished 28 = .ok (.ireturn, 1) := by decide +kernel
theorem dX1_awaitsCertificate_0 : decode cX1_awaitsCertificate 0 = .ok (.aload_n 0, 1) := by decide +kernel
theorem dX1_awaitsCertificate_1 : decode cX1_awaitsCertificate 1 = .ok (.invokevirtual 47, 3) := by decide +kernel
theorem dX1_awaitsCertificate_4 : decode cX1_awaitsCertificate 4 = .ok (.ifCond .eq 22, 3) := by decide +kernel
theorem dX1_awaitsCertificate_7 : decode cX1_awaitsCertificate 7 = .ok (.aload_n 0, 1) := by decide +kernel
theorem dX1_awaitsCertificate_8 : decode cX1_awaitsCertificate 8 = .ok (.getfield 50, 3) := by decide +kernel
theorem dX1_awaitsCertificate_11 : decode cX1_awaitsCertificate 11 = .ok (.ifCond .ne 15, 3) := by decide +kernel
theorem dX1_awaitsCertificate_14 : decode cX1_awaitsCertificate 14 = .ok (.aload_n 0, 1) := by decide +kernel
theorem dX1_awaitsCertificate_15 : decode cX1_awaitsCertificate 15 = .ok (.getfield 21, 3) := by decide +kernel
theorem dX1_awaitsCertificate_18 : decode cX1_awaitsCertificate 18 = .ok (.iconst (-1), 1) := by decide +kernel
theorem dX1_awaitsCertificate_19 : decode cX1_awaitsCertificate 19 = .ok (.if_icmp .ne 7, 3) := by decide +kernel
theorem dX1_awaitsCertificate_22 : decode cX1_awaitsCertificate 22 = .ok (.iconst 1, 1) := by decide +kernel
theorem dX1_awaitsCertificate_23 : decode cX1_awaitsCertificate 23 = .ok (.goto 4, 3) := by decide +kernel
theorem dX1_awaitsCertificate_26 : decode cX1_awaitsCertificate 26 = .ok (.iconst 0, 1) := by decide +kernel
theorem dX1_awaitsCertificate_27 : decode cX1_awaitsCertificate 27 = .ok (.ireturn, 1) := by decide +kernel
theorem dX2_init_0 : decode cX2_init 0 = .ok (.aload_n 0, 1) := by decide +kernel
theorem dX2_init_1 : decode cX2_init 1 = .ok (.invokespecial 1, 3) := by decide +kernel
theorem dX2_init_4 : decode cX2_init 4 = .ok (.aload_n 0, 1) := by decide +kernel
theorem dX2_init_5 : decode cX2_init 5 = .ok (.bipush 60, 2) := by decide +kernel
theorem dX2_init_7 : decode cX2_init 7 = .ok (.anewarray 9, 3) := by decide +kernel
theorem dX2_init_10 : decode cX2_init 10 = .ok (.putfield 11, 3) := by decide +kernel
theorem dX2_init_13 : decode cX2_init 13 = .ok (.aload_n 0, 1) := by decide +kernel
theorem dX2_init_14 : decode cX2_init 14 = .ok (.bipush 10, 2) := by decide +kernel
theorem dX2_init_16 : decode cX2_init 16 = .ok (.anewarray 15, 3) := by decide +kernel
theorem dX2_init_19 : decode cX2_init 19 = .ok (.putfield 17, 3) := by decide +kernel
theorem dX2_init_22 : decode cX2_init 22 = .ok (.iconst 0, 1) := by decide +kernel
theorem dX2_init_23 : decode cX2_init 23 = .ok (.istore_n 1, 1) := by decide +kernel
theorem dX2_init_24 : decode cX2_init 24 = .ok (.iload_n 1, 1) := by decide +kernel
theorem dX2_init_25 : decode cX2_init 25 = .ok (.bipush 10, 2) := by decide +kernel
theorem dX2_init_27 : decode cX2_init 27 = .ok (.if_icmp .ge 23, 3) := by decide +kernel
theorem dX2_init_30 : decode cX2_init 30 = .ok (.aload_n 0, 1) := by decide +kernel
theorem dX2_init_31 : decode cX2_init 31 = .ok (.getfield 17, 3) := by decide +kernel
theorem dX2_init_34 : decode cX2_init 34 = .ok (.iload_n 1, 1) := by decide +kernel
theorem dX2_init_35 : decode cX2_init 35 = .ok (.new 15, 3) := by decide +kernel
theorem dX2_init_38 : decode cX2_init 38 = .ok (.dup, 1) := by decide +kernel
theorem dX2_init_39 : decode cX2_init 39 = .ok (.iload_n 1, 1) := by decide +kernel
theorem dX2_init_40 : decode cX2_init 40 = .ok (.invokespecial 21, 3) := by decide +kernel
theorem dX2_init_43 : decode cX2_init 43 = .ok (.aastore, 1) := by decide +kernel
theorem dX2_init_44 : decode cX2_init 44 = .ok (.iinc 1 1, 3) := by decide +kernel
theorem dX2_init_47 : decode cX2_init 47 = .ok (.goto (-23), 3) := by decide +kernel
theorem dX2_init_50 : decode cX2_init 50 = .ok (.return_, 1) := by decide +kernel
theorem dX2_bring_0 : decode cX2_bring 0 = .ok (.iload_n 3, 1) := by decide +kernel
theorem dX2_bring_1 : decode cX2_bring 1 = .ok (.invokestatic 24, 3) := by decide +kernel
theorem dX2_bring_4 : decode cX2_bring 4 = .ok (.iload_n 1, 1) := by decide +kernel
theorem dX2_bring_5 : decode cX2_bring 5 = .ok (.ifCond .lt 17, 3) := by decide +kernel
theorem dX2_bring_8 : decode cX2_bring 8 = .ok (.iload_n 1, 1) := by decide +kernel
theorem dX2_bring_9 : decode cX2_bring 9 = .ok (.iconst 3, 1) := by decide +kernel
theorem dX2_bring_10 : decode cX2_bring 10 = .ok (.if_icmp .ge 12, 3) := by decide +kernel
theorem dX2_bring_13 : decode cX2_bring 13 = .ok (.iload_n 2, 1) := by decide +kernel
theorem dX2_bring_14 : decode cX2_bring 14 = .ok (.ifCond .lt 8, 3) := by decide +kernel
theorem dX2_bring_17 : decode cX2_bring 17 = .ok (.iload_n 2, 1) := by decide +kernel
theorem dX2_bring_18 : decode cX2_bring 18 = .ok (.iconst 4, 1) := by decide +kernel
theorem dX2_bring_19 : decode cX2_bring 19 = .ok (.if_icmp .lt 13, 3) := by decide +kernel
theorem dX2_bring_22 : decode cX2_bring 22 = .ok (.new 27, 3) := by decide +kernel
theorem dX2_bring_25 : decode cX2_bring 25 = .ok (.dup, 1) := by decide +kernel
theorem dX2_bring_26 : decode cX2_bring 26 = .ok (.ldc 29, 2) := by decide +kernel
theorem dX2_bring_28 : decode cX2_bring 28 = .ok (.invokespecial 31, 3) := by decide +kernel
theorem dX2_bring_31 : decode cX2_bring 31 = .ok (.athrow, 1) := by decide +kernel
theorem dX2_bring_32 : decode cX2_bring 32 = .ok (.aload_n 0, 1) := by decide +kernel
theorem dX2_bring_33 : decode cX2_bring 33 = .ok (.getfield 34, 3) := by decide +kernel
theorem dX2_bring_36 : decode cX2_bring 36 = .ok (.ifCond .lt 15, 3) := by decide +kernel
theorem dX2_bring_39 : decode cX2_bring 39 = .ok (.aload_n 0, 1) := by decide +kernel
theorem dX2_bring_40 : decode cX2_bring 40 = .ok (.getfield 34, 3) := by decide +kernel
theorem dX2_bring_43 : decode cX2_bring 43 = .ok (.aload_n 0, 1) := by decide +kernel
theorem dX2_bring_44 : decode cX2_bring 44 = .ok (.getfield 11, 3) := by decide +kernel
theorem dX2_bring_47 : decode cX2_bring 47 = .ok (.arraylength, 1) := by decide +kernel
theorem dX2_bring_48 : decode cX2_bring 48 = .ok (.if_icmp .lt 13, 3) := by decide +kernel
theorem dX2_bring_51 : decode cX2_bring 51 = .ok (.new 38, 3) := by decide +kernel
theorem dX2_bring_54 : decode cX2_bring 54 = .ok (.dup, 1) := by decide +kernel
theorem dX2_bring_55 : decode cX2_bring 55 = .ok (.ldc 40, 2) := by decide +kernel
theorem dX2_bring_57 : decode cX2_bring 57 = .ok (.invokespecial 42, 3) := by decide +kernel
theorem dX2_bring_60 : decode cX2_bring 60 = .ok (.athrow, 1) := by decide +kernel
theorem dX2_bring_61 : decode cX2_bring 61 = .ok (.new 9, 3) := by decide +kernel
theorem dX2_bring_64 : decode cX2_bring 64 = .ok (.dup, 1) := by decide +kernel
theorem dX2_bring_65 : decode cX2_bring 65 = .ok (.iload_n 1, 1) := by decide +kernel
theorem dX2_bring_66 : decode cX2_bring 66 = .ok (.iload_n 2, 1) := by decide +kernel
theorem dX2_bring_67 : decode cX2_bring 67 = .ok (.invokespecial 43, 3) := by decide +kernel
theorem dX2_bring_70 : decode cX2_bring 70 = .ok (.astore 4, 2) := by decide +kernel
theorem dX2_bring_72 : decode cX2_bring 72 = .ok (.aload_n 0, 1) := by decide +kernel
theorem dX2_bring_73 : decode cX2_bring 73 = .ok (.getfield 34, 3) := by decide +kernel
theorem dX2_bring_76 : decode cX2_bring 76 = .ok (.istore 5, 2) := by decide +kernel
theorem dX2_bring_78 : decode cX2_bring 78 = .ok (.aload_n 0, 1) := by decide +kernel
theorem dX2_bring_79 : decode cX2_bring 79 = .ok (.getfield 11, 3) := by decide +kernel
theorem dX2_bring_82 : decode cX2_bring 82 = .ok (.iload 5, 2) := by decide +kernel
theorem dX2_bring_84 : decode cX2_bring 84 = .ok (.aload 4, 2) := by decide +kernel
theorem dX2_bring_86 : decode cX2_bring 86 = .ok (.aastore, 1) := by decide +kernel
theorem dX2_bring_87 : decode cX2_bring 87 = .ok (.aload_n 0, 1) := by decide +kernel
theorem dX2_bring_88 : decode cX2_bring 88 = .ok (.dup, 1) := by decide +kernel
theorem dX2_bring_89 : decode cX2_bring 89 = .ok (.getfield 34, 3) := by decide +kernel
theorem dX2_bring_92 : decode cX2_bring 92 = .ok (.iconst 1, 1) := by decide +kernel
theorem dX2_bring_93 : decode cX2_bring 93 = .ok (.iadd, 1) := by decide +kernel
theorem dX2_bring_94 : decode cX2_bring 94 = .ok (.putfield 34, 3) := by decide +kernel
theorem dX2_bring_97 : decode cX2_bring 97 = .ok (.aload_n 0, 1) := by decide +kernel
theorem dX2_bring_98 : decode cX2_bring 98 = .ok (.aload 4, 2) := by decide +kernel
theorem dX2_bring_100 : decode cX2_bring 100 = .ok (.iload_n 3, 1) := by decide +kernel
theorem dX2_bring_101 : decode cX2_bring 101 = .ok (.invokevirtual 46, 3) := by decide +kernel
theorem dX2_bring_104 : decode cX2_bring 104 = .ok (.iload 5, 2) := by decide +kernel
theorem dX2_bring_106 : decode cX2_bring 106 = .ok (.ireturn, 1) := by decide +kernel
theorem dX2_offer_0 : decode cX2_offer 0 = .ok (.aload_n 0, 1) := by decide +kernel
theorem dX2_offer_1 : decode cX2_offer 1 = .ok (.iload_n 1, 1) := by decide +kernel
theorem dX2_offer_2 : decode cX2_offer 2 = .ok (.invokevirtual 50, 3) := by decide +kernel
theorem dX2_offer_5 : decode cX2_offer 5 = .ok (.astore_n 3, 1) := by decide +kernel
theorem dX2_offer_6 : decode cX2_offer 6 = .ok (.iload_n 2, 1) := by decide +kernel
theorem dX2_offer_7 : decode cX2_offer 7 = .ok (.invokestatic 24, 3) := by decide +kernel
theorem dX2_offer_10 : decode cX2_offer 10 = .ok (.iload_n 2, 1) := by decide +kernel
theorem dX2_offer_11 : decode cX2_offer 11 = .ok (.aload_n 3, 1) := by decide +kernel
theorem dX2_offer_12 : decode cX2_offer 12 = .ok (.getfield 54, 3) := by decide +kernel
theorem dX2_offer_15 : decode cX2_offer 15 = .ok (.if_icmp .ne 13, 3) := by decide +kernel
theorem dX2_offer_18 : decode cX2_offer 18 = .ok (.new 27, 3) := by decide +kernel
theorem dX2_offer_21 : decode cX2_offer 21 = .ok (.dup, 1) := by decide +kernel
theorem dX2_offer_22 : decode cX2_offer 22 = .ok (.ldc 57, 2) := by decide +kernel
theorem dX2_offer_24 : decode cX2_offer 24 = .ok (.invokespecial 31, 3) := by decide +kernel
theorem dX2_offer_27 : decode cX2_offer 27 = .ok (.athrow, 1) := by decide +kernel
theorem dX2_offer_28 : decode cX2_offer 28 = .ok (.aload_n 3, 1) := by decide +kernel
theorem dX2_offer_29 : decode cX2_offer 29 = .ok (.invokestatic 59, 3) := by decide +kernel
theorem dX2_offer_32 : decode cX2_offer 32 = .ok (.aload_n 3, 1) := by decide +kernel
theorem dX2_offer_33 : decode cX2_offer 33 = .ok (.iload_n 2, 1) := by decide +kernel
theorem dX2_offer_34 : decode cX2_offer 34 = .ok (.putfield 63, 3) := by decide +kernel
theorem dX2_offer_37 : decode cX2_offer 37 = .ok (.aload_n 3, 1) := by decide +kernel
theorem dX2_offer_38 : decode cX2_offer 38 = .ok (.getfield 54, 3) := by decide +kernel
theorem dX2_offer_41 : decode cX2_offer 41 = .ok (.ireturn, 1) := by decide +kernel
theorem dX2_answer_0 : decode cX2_answer 0 = .ok (.aload_n 0, 1) := by decide +kernel
theorem dX2_answer_1 : decode cX2_answer 1 = .ok (.iload_n 1, 1) := by decide +kernel
theorem dX2_answer_2 : decode cX2_answer 2 = .ok (.invokevirtual 50, 3) := by decide +kernel
theorem dX2_answer_5 : decode cX2_answer 5 = .ok (.astore_n 3, 1) := by decide +kernel
theorem dX2_answer_6 : decode cX2_answer 6 = .ok (.aload_n 3, 1) := by decide +kernel
theorem dX2_answer_7 : decode cX2_answer 7 = .ok (.getfield 66, 3) := by decide +kernel
theorem dX2_answer_10 : decode cX2_answer 10 = .ok (.ifCond .ne 11, 3) := by decide +kernel
theorem dX2_answer_13 : decode cX2_answer 13 = .ok (.aload_n 3, 1) := by decide +kernel
theorem dX2_answer_14 : decode cX2_answer 14 = .ok (.getfield 63, 3) := by decide +kernel
theorem dX2_answer_17 : decode cX2_answer 17 = .ok (.iconst (-1), 1) := by decide +kernel
theorem dX2_answer_18 : decode cX2_answer 18 = .ok (.if_icmp .ne 13, 3) := by decide +kernel
theorem dX2_answer_21 : decode cX2_answer 21 = .ok (.new 38, 3) := by decide +kernel
theorem dX2_answer_24 : decode cX2_answer 24 = .ok (.dup, 1) := by decide +kernel
theorem dX2_answer_25 : decode cX2_answer 25 = .ok (.ldc 70, 2) := by decide +kernel
theorem dX2_answer_27 : decode cX2_answer 27 = .ok (.invokespecial 42, 3) := by decide +kernel
theorem dX2_answer_30 : decode cX2_answer 30 = .ok (.athrow, 1) := by decide +kernel
theorem dX2_answer_31 : decode cX2_answer 31 = .ok (.aload_n 3, 1) := by decide +kernel
theorem dX2_answer_32 : decode cX2_answer 32 = .ok (.getfield 63, 3) := by decide +kernel
theorem dX2_answer_35 : decode cX2_answer 35 = .ok (.istore 4, 2) := by decide +kernel
theorem dX2_answer_37 : decode cX2_answer 37 = .ok (.aload_n 3, 1) := by decide +kernel
theorem dX2_answer_38 : decode cX2_answer 38 = .ok (.iconst (-1), 1) := by decide +kernel
theorem dX2_answer_39 : decode cX2_answer 39 = .ok (.putfield 63, 3) := by decide +kernel
theorem dX2_answer_42 : decode cX2_answer 42 = .ok (.iload_n 2, 1) := by decide +kernel
theorem dX2_answer_43 : decode cX2_answer 43 = .ok (.ifCond .eq 10, 3) := by decide +kernel
theorem dX2_answer_46 : decode cX2_answer 46 = .ok (.aload_n 0, 1) := by decide +kernel
theorem dX2_answer_47 : decode cX2_answer 47 = .ok (.aload_n 3, 1) := by decide +kernel
theorem dX2_answer_48 : decode cX2_answer 48 = .ok (.iload 4, 2) := by decide +kernel
theorem dX2_answer_50 : decode cX2_answer 50 = .ok (.invokevirtual 46, 3) := by decide +kernel
theorem dX2_answer_53 : decode cX2_answer 53 = .ok (.aload_n 3, 1) := by decide +kernel
theorem dX2_answer_54 : decode cX2_answer 54 = .ok (.getfield 54, 3) := by decide +kernel
theorem dX2_answer_57 : decode cX2_answer 57 = .ok (.ireturn, 1) := by decide +kernel
theorem dX2_pack_0 : decode cX2_pack 0 = .ok (.aload_n 0, 1) := by decide +kernel
theorem dX2_pack_1 : decode cX2_pack 1 = .ok (.iload_n 1, 1) := by decide +kernel
theorem dX2_pack_2 : decode cX2_pack 2 = .ok (.invokevirtual 50, 3) := by decide +kernel
theorem dX2_pack_5 : decode cX2_pack 5 = .ok (.astore_n 3, 1) := by decide +kernel
theorem dX2_pack_6 : decode cX2_pack 6 = .ok (.aload_n 0, 1) := by decide +kernel
theorem dX2_pack_7 : decode cX2_pack 7 = .ok (.iload_n 2, 1) := by decide +kernel
theorem dX2_pack_8 : decode cX2_pack 8 = .ok (.invokevirtual 72, 3) := by decide +kernel
theorem dX2_pack_11 : decode cX2_pack 11 = .ok (.astore 4, 2) := by decide +kernel
theorem dX2_pack_13 : decode cX2_pack 13 = .ok (.aload_n 3, 1) := by decide +kernel
theorem dX2_pack_14 : decode cX2_pack 14 = .ok (.invokestatic 59, 3) := by decide +kernel
theorem dX2_pack_17 : decode cX2_pack 17 = .ok (.aload 4, 2) := by decide +kernel
theorem dX2_pack_19 : decode cX2_pack 19 = .ok (.invokevirtual 76, 3) := by decide +kernel
theorem dX2_pack_22 : decode cX2_pack 22 = .ok (.ifCond .ne 15, 3) := by decide +kernel
theorem dX2_pack_25 : decode cX2_pack 25 = .ok (.aload 4, 2) := by decide +kernel
theorem dX2_pack_27 : decode cX2_pack 27 = .ok (.getfield 80, 3) := by decide +kernel
theorem dX2_pack_30 : decode cX2_pack 30 = .ok (.aload_n 3, 1) := by decide +kernel
theorem dX2_pack_31 : decode cX2_pack 31 = .ok (.getfield 54, 3) := by decide +kernel
theorem dX2_pack_34 : decode cX2_pack 34 = .ok (.if_icmp .eq 13, 3) := by decide +kernel
theorem dX2_pack_37 : decode cX2_pack 37 = .ok (.new 38, 3) := by decide +kernel
theorem dX2_pack_40 : decode cX2_pack 40 = .ok (.dup, 1) := by decide +kernel
theorem dX2_pack_41 : decode cX2_pack 41 = .ok (.ldc 81, 2) := by decide +kernel
theorem dX2_pack_43 : decode cX2_pack 43 = .ok (.invokespecial 42, 3) := by decide +kernel
theorem dX2_pack_46 : decode cX2_pack 46 = .ok (.athrow, 1) := by decide +kernel
theorem dX2_pack_47 : decode cX2_pack 47 = .ok (.aload_n 3, 1) := by decide +kernel
theorem dX2_pack_48 : decode cX2_pack 48 = .ok (.aload 4, 2) := by decide +kernel
theorem dX2_pack_50 : decode cX2_pack 50 = .ok (.putfield 83, 3) := by decide +kernel
theorem dX2_pack_53 : decode cX2_pack 53 = .ok (.aload_n 0, 1) := by decide +kernel
theorem dX2_pack_54 : decode cX2_pack 54 = .ok (.aload 4, 2) := by decide +kernel
theorem dX2_pack_56 : decode cX2_pack 56 = .ok (.invokevirtual 87, 3) := by decide +kernel
theorem dX2_pack_59 : decode cX2_pack 59 = .ok (.ireturn, 1) := by decide +kernel
theorem dX2_unpack_0 : decode cX2_unpack 0 = .ok (.aload_n 0, 1) := by decide +kernel
theorem dX2_unpack_1 : decode cX2_unpack 1 = .ok (.iload_n 1, 1) := by decide +kernel
theorem dX2_unpack_2 : decode cX2_unpack 2 = .ok (.invokevirtual 50, 3) := by decide +kernel
theorem dX2_unpack_5 : decode cX2_unpack 5 = .ok (.astore_n 2, 1) := by decide +kernel
theorem dX2_unpack_6 : decode cX2_unpack 6 = .ok (.aload_n 2, 1) := by decide +kernel
theorem dX2_unpack_7 : decode cX2_unpack 7 = .ok (.getfield 83, 3) := by decide +kernel
theorem dX2_unpack_10 : decode cX2_unpack 10 = .ok (.astore_n 3, 1) := by decide +kernel
theorem dX2_unpack_11 : decode cX2_unpack 11 = .ok (.aload_n 2, 1) := by decide +kernel
theorem dX2_unpack_12 : decode cX2_unpack 12 = .ok (.getfield 66, 3) := by decide +kernel
theorem dX2_unpack_15 : decode cX2_unpack 15 = .ok (.ifCond .ne 14, 3) := by decide +kernel
theorem dX2_unpack_18 : decode cX2_unpack 18 = .ok (.aload_n 3, 1) := by decide +kernel
theorem dX2_unpack_19 : decode cX2_unpack 19 = .ok (.ifnull 10, 3) := by decide +kernel
theorem dX2_unpack_22 : decode cX2_unpack 22 = .ok (.aload_n 3, 1) := by decide +kernel
theorem dX2_unpack_23 : decode cX2_unpack 23 = .ok (.invokevirtual 76, 3) := by decide +kernel
theorem dX2_unpack_26 : decode cX2_unpack 26 = .ok (.ifCond .eq 13, 3) := by decide +kernel
theorem dX2_unpack_29 : decode cX2_unpack 29 = .ok (.new 38, 3) := by decide +kernel
theorem dX2_unpack_32 : decode cX2_unpack 32 = .ok (.dup, 1) := by decide +kernel
theorem dX2_unpack_33 : decode cX2_unpack 33 = .ok (.ldc 91, 2) := by decide +kernel
theorem dX2_unpack_35 : decode cX2_unpack 35 = .ok (.invokespecial 42, 3) := by decide +kernel
theorem dX2_unpack_38 : decode cX2_unpack 38 = .ok (.athrow, 1) := by decide +kernel
theorem dX2_unpack_39 : decode cX2_unpack 39 = .ok (.aload_n 2, 1) := by decide +kernel
theorem dX2_unpack_40 : decode cX2_unpack 40 = .ok (.aconst_null, 1) := by decide +kernel
theorem dX2_unpack_41 : decode cX2_unpack 41 = .ok (.putfield 83, 3) := by decide +kernel
theorem dX2_unpack_44 : decode cX2_unpack 44 = .ok (.aload_n 3, 1) := by decide +kernel
theorem dX2_unpack_45 : decode cX2_unpack 45 = .ok (.getfield 93, 3) := by decide +kernel
theorem dX2_unpack_48 : decode cX2_unpack 48 = .ok (.ireturn, 1) := by decide +kernel
theorem dX2_seal_0 : decode cX2_seal 0 = .ok (.aload_n 0, 1) := by decide +kernel
theorem dX2_seal_1 : decode cX2_seal 1 = .ok (.iload_n 1, 1) := by decide +kernel
theorem dX2_seal_2 : decode cX2_seal 2 = .ok (.invokevirtual 72, 3) := by decide +kernel
theorem dX2_seal_5 : decode cX2_seal 5 = .ok (.astore_n 2, 1) := by decide +kernel
theorem dX2_seal_6 : decode cX2_seal 6 = .ok (.aload_n 2, 1) := by decide +kernel
theorem dX2_seal_7 : decode cX2_seal 7 = .ok (.invokevirtual 76, 3) := by decide +kernel
theorem dX2_seal_10 : decode cX2_seal 10 = .ok (.ifCond .ne 12, 3) := by decide +kernel
theorem dX2_seal_13 : decode cX2_seal 13 = .ok (.aload_n 0, 1) := by decide +kernel
theorem dX2_seal_14 : decode cX2_seal 14 = .ok (.getfield 96, 3) := by decide +kernel
theorem dX2_seal_17 : decode cX2_seal 17 = .ok (.bipush 100, 2) := by decide +kernel
theorem dX2_seal_19 : decode cX2_seal 19 = .ok (.if_icmp .lt 13, 3) := by decide +kernel
theorem dX2_seal_22 : decode cX2_seal 22 = .ok (.new 38, 3) := by decide +kernel
theorem dX2_seal_25 : decode cX2_seal 25 = .ok (.dup, 1) := by decide +kernel
theorem dX2_seal_26 : decode cX2_seal 26 = .ok (.ldc 99, 2) := by decide +kernel
theorem dX2_seal_28 : decode cX2_seal 28 = .ok (.invokespecial 42, 3) := by decide +kernel
theorem dX2_seal_31 : decode cX2_seal 31 = .ok (.athrow, 1) := by decide +kernel
theorem dX2_seal_32 : decode cX2_seal 32 = .ok (.aload_n 2, 1) := by decide +kernel
theorem dX2_seal_33 : decode cX2_seal 33 = .ok (.aload_n 0, 1) := by decide +kernel
theorem dX2_seal_34 : decode cX2_seal 34 = .ok (.getfield 96, 3) := by decide +kernel
theorem dX2_seal_37 : decode cX2_seal 37 = .ok (.putfield 101, 3) := by decide +kernel
theorem dX2_seal_40 : decode cX2_seal 40 = .ok (.aload_n 2, 1) := by decide +kernel
theorem dX2_seal_41 : decode cX2_seal 41 = .ok (.aload_n 0, 1) := by decide +kernel
theorem dX2_seal_42 : decode cX2_seal 42 = .ok (.aload_n 2, 1) := by decide +kernel
theorem dX2_seal_43 : decode cX2_seal 43 = .ok (.invokevirtual 87, 3) := by decide +kernel
theorem dX2_seal_46 : decode cX2_seal 46 = .ok (.putfield 104, 3) := by decide +kernel
theorem dX2_seal_49 : decode cX2_seal 49 = .ok (.aload_n 0, 1) := by decide +kernel
theorem dX2_seal_50 : decode cX2_seal 50 = .ok (.dup, 1) := by decide +kernel
theorem dX2_seal_51 : decode cX2_seal 51 = .ok (.getfield 96, 3) := by decide +kernel
theorem dX2_seal_54 : decode cX2_seal 54 = .ok (.iconst 1, 1) := by decide +kernel
theorem dX2_seal_55 : decode cX2_seal 55 = .ok (.iadd, 1) := by decide +kernel
theorem dX2_seal_56 : decode cX2_seal 56 = .ok (.putfield 96, 3) := by decide +kernel
theorem dX2_seal_59 : decode cX2_seal 59 = .ok (.aload_n 2, 1) := by decide +kernel
theorem dX2_seal_60 : decode cX2_seal 60 = .ok (.getfield 101, 3) := by decide +kernel
theorem dX2_seal_63 : decode cX2_seal 63 = .ok (.ireturn, 1) := by decide +kernel
theorem dX2_open_0 : decode cX2_open 0 = .ok (.aload_n 0, 1) := by decide +kernel
theorem dX2_open_1 : decode cX2_open 1 = .ok (.iload_n 1, 1) := by decide +kernel
theorem dX2_open_2 : decode cX2_open 2 = .ok (.invokevirtual 72, 3) := by decide +kernel
theorem dX2_open_5 : decode cX2_open 5 = .ok (.astore_n 3, 1) := by decide +kernel
theorem dX2_open_6 : decode cX2_open 6 = .ok (.iload_n 2, 1) := by decide +kernel
theorem dX2_open_7 : decode cX2_open 7 = .ok (.ifCond .lt 9, 3) := by decide +kernel
theorem dX2_open_10 : decode cX2_open 10 = .ok (.iload_n 2, 1) := by decide +kernel
theorem dX2_open_11 : decode cX2_open 11 = .ok (.bipush 99, 2) := by decide +kernel
theorem dX2_open_13 : decode cX2_open 13 = .ok (.if_icmp .le 13, 3) := by decide +kernel
theorem dX2_open_16 : decode cX2_open 16 = .ok (.new 27, 3) := by decide +kernel
theorem dX2_open_19 : decode cX2_open 19 = .ok (.dup, 1) := by decide +kernel
theorem dX2_open_20 : decode cX2_open 20 = .ok (.ldc 107, 2) := by decide +kernel
theorem dX2_open_22 : decode cX2_open 22 = .ok (.invokespecial 31, 3) := by decide +kernel
theorem dX2_open_25 : decode cX2_open 25 = .ok (.athrow, 1) := by decide +kernel
theorem dX2_open_26 : decode cX2_open 26 = .ok (.aload_n 3, 1) := by decide +kernel
theorem dX2_open_27 : decode cX2_open 27 = .ok (.invokevirtual 76, 3) := by decide +kernel
theorem dX2_open_30 : decode cX2_open 30 = .ok (.ifCond .ne 13, 3) := by decide +kernel
theorem dX2_open_33 : decode cX2_open 33 = .ok (.new 38, 3) := by decide +kernel
theorem dX2_open_36 : decode cX2_open 36 = .ok (.dup, 1) := by decide +kernel
theorem dX2_open_37 : decode cX2_open 37 = .ok (.ldc 109, 2) := by decide +kernel
theorem dX2_open_39 : decode cX2_open 39 = .ok (.invokespecial 42, 3) := by decide +kernel
theorem dX2_open_42 : decode cX2_open 42 = .ok (.athrow, 1) := by decide +kernel
theorem dX2_open_43 : decode cX2_open 43 = .ok (.iload_n 2, 1) := by decide +kernel
theorem dX2_open_44 : decode cX2_open 44 = .ok (.aload_n 3, 1) := by decide +kernel
theorem dX2_open_45 : decode cX2_open 45 = .ok (.getfield 104, 3) := by decide +kernel
theorem dX2_open_48 : decode cX2_open 48 = .ok (.isub, 1) := by decide +kernel
theorem dX2_open_49 : decode cX2_open 49 = .ok (.istore 4, 2) := by decide +kernel
theorem dX2_open_51 : decode cX2_open 51 = .ok (.aload_n 3, 1) := by decide +kernel
theorem dX2_open_52 : decode cX2_open 52 = .ok (.iconst (-1), 1) := by decide +kernel
theorem dX2_open_53 : decode cX2_open 53 = .ok (.putfield 101, 3) := by decide +kernel
theorem dX2_open_56 : decode cX2_open 56 = .ok (.iload 4, 2) := by decide +kernel
theorem dX2_open_58 : decode cX2_open 58 = .ok (.ifCond .eq 13, 3) := by decide +kernel
theorem dX2_open_61 : decode cX2_open 61 = .ok (.aload_n 0, 1) := by decide +kernel
theorem dX2_open_62 : decode cX2_open 62 = .ok (.dup, 1) := by decide +kernel
theorem dX2_open_63 : decode cX2_open 63 = .ok (.getfield 111, 3) := by decide +kernel
theorem dX2_open_66 : decode cX2_open 66 = .ok (.iconst 1, 1) := by decide +kernel
theorem dX2_open_67 : decode cX2_open 67 = .ok (.iadd, 1) := by decide +kernel
theorem dX2_open_68 : decode cX2_open 68 = .ok (.putfield 111, 3) := by decide +kernel
theorem dX2_open_71 : decode cX2_open 71 = .ok (.iload 4, 2) := by decide +kernel
theorem dX2_open_73 : decode cX2_open 73 = .ok (.ireturn, 1) := by decide +kernel
theorem dX2_carry_0 : decode cX2_carry 0 = .ok (.aload_n 0, 1) := by decide +kernel
theorem dX2_carry_1 : decode cX2_carry 1 = .ok (.iload_n 1, 1) := by decide +kernel
theorem dX2_carry_2 : decode cX2_carry 2 = .ok (.invokevirtual 72, 3) := by decide +kernel
theorem dX2_carry_5 : decode cX2_carry 5 = .ok (.astore_n 3, 1) := by decide +kernel
theorem dX2_carry_6 : decode cX2_carry 6 = .ok (.iload_n 2, 1) := by decide +kernel
theorem dX2_carry_7 : decode cX2_carry 7 = .ok (.invokestatic 24, 3) := by decide +kernel
theorem dX2_carry_10 : decode cX2_carry 10 = .ok (.iload_n 2, 1) := by decide +kernel
theorem dX2_carry_11 : decode cX2_carry 11 = .ok (.aload_n 3, 1) := by decide +kernel
theorem dX2_carry_12 : decode cX2_carry 12 = .ok (.getfield 80, 3) := by decide +kernel
theorem dX2_carry_15 : decode cX2_carry 15 = .ok (.if_icmp .ne 13, 3) := by decide +kernel
theorem dX2_carry_18 : decode cX2_carry 18 = .ok (.new 27, 3) := by decide +kernel
theorem dX2_carry_21 : decode cX2_carry 21 = .ok (.dup, 1) := by decide +kernel
theorem dX2_carry_22 : decode cX2_carry 22 = .ok (.ldc 114, 2) := by decide +kernel
theorem dX2_carry_24 : decode cX2_carry 24 = .ok (.invokespecial 31, 3) := by decide +kernel
theorem dX2_carry_27 : decode cX2_carry 27 = .ok (.athrow, 1) := by decide +kernel
theorem dX2_carry_28 : decode cX2_carry 28 = .ok (.aload_n 3, 1) := by decide +kernel
theorem dX2_carry_29 : decode cX2_carry 29 = .ok (.invokevirtual 76, 3) := by decide +kernel
theorem dX2_carry_32 : decode cX2_carry 32 = .ok (.ifCond .ne 21, 3) := by decide +kernel
theorem dX2_carry_35 : decode cX2_carry 35 = .ok (.aload_n 0, 1) := by decide +kernel
theorem dX2_carry_36 : decode cX2_carry 36 = .ok (.aload_n 3, 1) := by decide +kernel
theorem dX2_carry_37 : decode cX2_carry 37 = .ok (.invokevirtual 87, 3) := by decide +kernel
theorem dX2_carry_40 : decode cX2_carry 40 = .ok (.ifCond .le 13, 3) := by decide +kernel
theorem dX2_carry_43 : decode cX2_carry 43 = .ok (.new 38, 3) := by decide +kernel
theorem dX2_carry_46 : decode cX2_carry 46 = .ok (.dup, 1) := by decide +kernel
theorem dX2_carry_47 : decode cX2_carry 47 = .ok (.ldc 116, 2) := by decide +kernel
theorem dX2_carry_49 : decode cX2_carry 49 = .ok (.invokespecial 42, 3) := by decide +kernel
theorem dX2_carry_52 : decode cX2_carry 52 = .ok (.athrow, 1) := by decide +kernel
theorem dX2_carry_53 : decode cX2_carry 53 = .ok (.aload_n 3, 1) := by decide +kernel
theorem dX2_carry_54 : decode cX2_carry 54 = .ok (.getfield 80, 3) := by decide +kernel
theorem dX2_carry_57 : decode cX2_carry 57 = .ok (.istore 4, 2) := by decide +kernel
theorem dX2_carry_59 : decode cX2_carry 59 = .ok (.aload_n 3, 1) := by decide +kernel
theorem dX2_carry_60 : decode cX2_carry 60 = .ok (.iload_n 2, 1) := by decide +kernel
theorem dX2_carry_61 : decode cX2_carry 61 = .ok (.putfield 80, 3) := by decide +kernel
theorem dX2_carry_64 : decode cX2_carry 64 = .ok (.aload_n 0, 1) := by decide +kernel
theorem dX2_carry_65 : decode cX2_carry 65 = .ok (.aload_n 3, 1) := by decide +kernel
theorem dX2_carry_66 : decode cX2_carry 66 = .ok (.invokevirtual 118, 3) := by decide +kernel
theorem dX2_carry_69 : decode cX2_carry 69 = .ok (.iload 4, 2) := by decide +kernel
theorem dX2_carry_71 : decode cX2_carry 71 = .ok (.ireturn, 1) := by decide +kernel
theorem dX2_wipe_0 : decode cX2_wipe 0 = .ok (.aload_n 0, 1) := by decide +kernel
theorem dX2_wipe_1 : decode cX2_wipe 1 = .ok (.iload_n 1, 1) := by decide +kernel
theorem dX2_wipe_2 : decode cX2_wipe 2 = .ok (.invokevirtual 50, 3) := by decide +kernel
theorem dX2_wipe_5 : decode cX2_wipe 5 = .ok (.astore 4, 2) := by decide +kernel
theorem dX2_wipe_7 : decode cX2_wipe 7 = .ok (.iload_n 3, 1) := by decide +kernel
theorem dX2_wipe_8 : decode cX2_wipe 8 = .ok (.invokestatic 24, 3) := by decide +kernel
theorem dX2_wipe_11 : decode cX2_wipe 11 = .ok (.iload_n 2, 1) := by decide +kernel
theorem dX2_wipe_12 : decode cX2_wipe 12 = .ok (.ifCond .lt 8, 3) := by decide +kernel
theorem dX2_wipe_15 : decode cX2_wipe 15 = .ok (.iload_n 2, 1) := by decide +kernel
theorem dX2_wipe_16 : decode cX2_wipe 16 = .ok (.iconst 3, 1) := by decide +kernel
theorem dX2_wipe_17 : decode cX2_wipe 17 = .ok (.if_icmp .lt 13, 3) := by decide +kernel
theorem dX2_wipe_20 : decode cX2_wipe 20 = .ok (.new 27, 3) := by decide +kernel
theorem dX2_wipe_23 : decode cX2_wipe 23 = .ok (.dup, 1) := by decide +kernel
theorem dX2_wipe_24 : decode cX2_wipe 24 = .ok (.ldc 122, 2) := by decide +kernel
theorem dX2_wipe_26 : decode cX2_wipe 26 = .ok (.invokespecial 31, 3) := by decide +kernel
theorem dX2_wipe_29 : decode cX2_wipe 29 = .ok (.athrow, 1) := by decide +kernel
theorem dX2_wipe_30 : decode cX2_wipe 30 = .ok (.aload 4, 2) := by decide +kernel
theorem dX2_wipe_32 : decode cX2_wipe 32 = .ok (.iload_n 3, 1) := by decide +kernel
theorem dX2_wipe_33 : decode cX2_wipe 33 = .ok (.invokestatic 124, 3) := by decide +kernel
theorem dX2_wipe_36 : decode cX2_wipe 36 = .ok (.aload 4, 2) := by decide +kernel
theorem dX2_wipe_38 : decode cX2_wipe 38 = .ok (.invokestatic 127, 3) := by decide +kernel
theorem dX2_wipe_41 : decode cX2_wipe 41 = .ok (.aload 4, 2) := by decide +kernel
theorem dX2_wipe_43 : decode cX2_wipe 43 = .ok (.getfield 130, 3) := by decide +kernel
theorem dX2_wipe_46 : decode cX2_wipe 46 = .ok (.iconst 1, 1) := by decide +kernel
theorem dX2_wipe_47 : decode cX2_wipe 47 = .ok (.if_icmp .eq 12, 3) := by decide +kernel
theorem dX2_wipe_50 : decode cX2_wipe 50 = .ok (.aload 4, 2) := by decide +kernel
theorem dX2_wipe_52 : decode cX2_wipe 52 = .ok (.getfield 130, 3) := by decide +kernel
theorem dX2_wipe_55 : decode cX2_wipe 55 = .ok (.iconst 3, 1) := by decide +kernel
theorem dX2_wipe_56 : decode cX2_wipe 56 = .ok (.if_icmp .ne 13, 3) := by decide +kernel
theorem dX2_wipe_59 : decode cX2_wipe 59 = .ok (.new 38, 3) := by decide +kernel
theorem dX2_wipe_62 : decode cX2_wipe 62 = .ok (.dup, 1) := by decide +kernel
theorem dX2_wipe_63 : decode cX2_wipe 63 = .ok (.ldc 133, 2) := by decide +kernel
theorem dX2_wipe_65 : decode cX2_wipe 65 = .ok (.invokespecial 42, 3) := by decide +kernel
theorem dX2_wipe_68 : decode cX2_wipe 68 = .ok (.athrow, 1) := by decide +kernel
theorem dX2_wipe_69 : decode cX2_wipe 69 = .ok (.iload_n 2, 1) := by decide +kernel
theorem dX2_wipe_70 : decode cX2_wipe 70 = .ok (.aload 4, 2) := by decide +kernel
theorem dX2_wipe_72 : decode cX2_wipe 72 = .ok (.getfield 135, 3) := by decide +kernel
theorem dX2_wipe_75 : decode cX2_wipe 75 = .ok (.if_icmp .ne 16, 3) := by decide +kernel
theorem dX2_wipe_78 : decode cX2_wipe 78 = .ok (.aload 4, 2) := by decide +kernel
theorem dX2_wipe_80 : decode cX2_wipe 80 = .ok (.getfield 138, 3) := by decide +kernel
theorem dX2_wipe_83 : decode cX2_wipe 83 = .ok (.iconst 3, 1) := by decide +kernel
theorem dX2_wipe_84 : decode cX2_wipe 84 = .ok (.if_icmp .ge 7, 3) := by decide +kernel
theorem dX2_wipe_87 : decode cX2_wipe 87 = .ok (.iconst 1, 1) := by decide +kernel
theorem dX2_wipe_88 : decode cX2_wipe 88 = .ok (.goto 4, 3) := by decide +kernel
theorem dX2_wipe_91 : decode cX2_wipe 91 = .ok (.iconst 0, 1) := by decide +kernel
theorem dX2_wipe_92 : decode cX2_wipe 92 = .ok (.istore 5, 2) := by decide +kernel
theorem dX2_wipe_94 : decode cX2_wipe 94 = .ok (.aload 4, 2) := by decide +kernel
theorem dX2_wipe_96 : decode cX2_wipe 96 = .ok (.iload 5, 2) := by decide +kernel
theorem dX2_wipe_98 : decode cX2_wipe 98 = .ok (.ifCond .eq 7, 3) := by decide +kernel
theorem dX2_wipe_101 : decode cX2_wipe 101 = .ok (.iconst 1, 1) := by decide +kernel
theorem dX2_wipe_102 : decode cX2_wipe 102 = .ok (.goto 4, 3) := by decide +kernel
theorem dX2_wipe_105 : decode cX2_wipe 105 = .ok (.iconst 2, 1) := by decide +kernel
theorem dX2_wipe_106 : decode cX2_wipe 106 = .ok (.putfield 130, 3) := by decide +kernel
theorem dX2_wipe_109 : decode cX2_wipe 109 = .ok (.aload 4, 2) := by decide +kernel
theorem dX2_wipe_111 : decode cX2_wipe 111 = .ok (.aload 4, 2) := by decide +kernel
theorem dX2_wipe_113 : decode cX2_wipe 113 = .ok (.getfield 54, 3) := by decide +kernel
theorem dX2_wipe_116 : decode cX2_wipe 116 = .ok (.putfield 141, 3) := by decide +kernel
theorem dX2_wipe_119 : decode cX2_wipe 119 = .ok (.aload 4, 2) := by decide +kernel
theorem dX2_wipe_121 : decode cX2_wipe 121 = .ok (.iconst 0, 1) := by decide +kernel
theorem dX2_wipe_122 : decode cX2_wipe 122 = .ok (.putfield 144, 3) := by decide +kernel
theorem dX2_wipe_125 : decode cX2_wipe 125 = .ok (.aload 4, 2) := by decide +kernel
theorem dX2_wipe_127 : decode cX2_wipe 127 = .ok (.getfield 130, 3) := by decide +kernel
theorem dX2_wipe_130 : decode cX2_wipe 130 = .ok (.ireturn, 1) := by decide +kernel
theorem dX2_smash_0 : decode cX2_smash 0 = .ok (.aload_n 0, 1) := by decide +kernel
theorem dX2_smash_1 : decode cX2_smash 1 = .ok (.iload_n 1, 1) := by decide +kernel
theorem dX2_smash_2 : decode cX2_smash 2 = .ok (.invokevirtual 50, 3) := by decide +kernel
theorem dX2_smash_5 : decode cX2_smash 5 = .ok (.astore_n 3, 1) := by decide +kernel
theorem dX2_smash_6 : decode cX2_smash 6 = .ok (.iload_n 2, 1) := by decide +kernel
theorem dX2_smash_7 : decode cX2_smash 7 = .ok (.invokestatic 24, 3) := by decide +kernel
theorem dX2_smash_10 : decode cX2_smash 10 = .ok (.aload_n 3, 1) := by decide +kernel
theorem dX2_smash_11 : decode cX2_smash 11 = .ok (.iload_n 2, 1) := by decide +kernel
theorem dX2_smash_12 : decode cX2_smash 12 = .ok (.invokestatic 124, 3) := by decide +kernel
theorem dX2_smash_15 : decode cX2_smash 15 = .ok (.aload_n 3, 1) := by decide +kernel
theorem dX2_smash_16 : decode cX2_smash 16 = .ok (.invokestatic 127, 3) := by decide +kernel
theorem dX2_smash_19 : decode cX2_smash 19 = .ok (.aload_n 3, 1) := by decide +kernel
theorem dX2_smash_20 : decode cX2_smash 20 = .ok (.getfield 130, 3) := by decide +kernel
theorem dX2_smash_23 : decode cX2_smash 23 = .ok (.iconst 3, 1) := by decide +kernel
theorem dX2_smash_24 : decode cX2_smash 24 = .ok (.if_icmp .ne 13, 3) := by decide +kernel
theorem dX2_smash_27 : decode cX2_smash 27 = .ok (.new 38, 3) := by decide +kernel
theorem dX2_smash_30 : decode cX2_smash 30 = .ok (.dup, 1) := by decide +kernel
theorem dX2_smash_31 : decode cX2_smash 31 = .ok (.ldc 147, 2) := by decide +kernel
theorem dX2_smash_33 : decode cX2_smash 33 = .ok (.invokespecial 42, 3) := by decide +kernel
theorem dX2_smash_36 : decode cX2_smash 36 = .ok (.athrow, 1) := by decide +kernel
theorem dX2_smash_37 : decode cX2_smash 37 = .ok (.aload_n 3, 1) := by decide +kernel
theorem dX2_smash_38 : decode cX2_smash 38 = .ok (.getfield 130, 3) := by decide +kernel
theorem dX2_smash_41 : decode cX2_smash 41 = .ok (.istore 4, 2) := by decide +kernel
theorem dX2_smash_43 : decode cX2_smash 43 = .ok (.aload_n 3, 1) := by decide +kernel
theorem dX2_smash_44 : decode cX2_smash 44 = .ok (.iconst 3, 1) := by decide +kernel
theorem dX2_smash_45 : decode cX2_smash 45 = .ok (.putfield 130, 3) := by decide +kernel
theorem dX2_smash_48 : decode cX2_smash 48 = .ok (.iload 4, 2) := by decide +kernel
theorem dX2_smash_50 : decode cX2_smash 50 = .ok (.ireturn, 1) := by decide +kernel
theorem dX2_check_0 : decode cX2_check 0 = .ok (.aload_n 0, 1) := by decide +kernel
theorem dX2_check_1 : decode cX2_check 1 = .ok (.iload_n 1, 1) := by decide +kernel
theorem dX2_check_2 : decode cX2_check 2 = .ok (.invokevirtual 50, 3) := by decide +kernel
theorem dX2_check_5 : decode cX2_check 5 = .ok (.astore 4, 2) := by decide +kernel
theorem dX2_check_7 : decode cX2_check 7 = .ok (.iload_n 2, 1) := by decide +kernel
theorem dX2_check_8 : decode cX2_check 8 = .ok (.invokestatic 24, 3) := by decide +kernel
theorem dX2_check_11 : decode cX2_check 11 = .ok (.aload 4, 2) := by decide +kernel
theorem dX2_check_13 : decode cX2_check 13 = .ok (.getfield 130, 3) := by decide +kernel
theorem dX2_check_16 : decode cX2_check 16 = .ok (.iconst 1, 1) := by decide +kernel
theorem dX2_check_17 : decode cX2_check 17 = .ok (.if_icmp .ne 22, 3) := by decide +kernel
theorem dX2_check_20 : decode cX2_check 20 = .ok (.iload_n 2, 1) := by decide +kernel
theorem dX2_check_21 : decode cX2_check 21 = .ok (.aload 4, 2) := by decide +kernel
theorem dX2_check_23 : decode cX2_check 23 = .ok (.getfield 141, 3) := by decide +kernel
theorem dX2_check_26 : decode cX2_check 26 = .ok (.if_icmp .ne 13, 3) := by decide +kernel
theorem dX2_check_29 : decode cX2_check 29 = .ok (.new 27, 3) := by decide +kernel
theorem dX2_check_32 : decode cX2_check 32 = .ok (.dup, 1) := by decide +kernel
theorem dX2_check_33 : decode cX2_check 33 = .ok (.ldc 149, 2) := by decide +kernel
theorem dX2_check_35 : decode cX2_check 35 = .ok (.invokespecial 31, 3) := by decide +kernel
theorem dX2_check_38 : decode cX2_check 38 = .ok (.athrow, 1) := by decide +kernel
theorem dX2_check_39 : decode cX2_check 39 = .ok (.aload 4, 2) := by decide +kernel
theorem dX2_check_41 : decode cX2_check 41 = .ok (.invokestatic 127, 3) := by decide +kernel
theorem dX2_check_44 : decode cX2_check 44 = .ok (.aload 4, 2) := by decide +kernel
theorem dX2_check_46 : decode cX2_check 46 = .ok (.getfield 130, 3) := by decide +kernel
theorem dX2_check_49 : decode cX2_check 49 = .ok (.iconst 1, 1) := by decide +kernel
theorem dX2_check_50 : decode cX2_check 50 = .ok (.if_icmp .eq 13, 3) := by decide +kernel
theorem dX2_check_53 : decode cX2_check 53 = .ok (.new 38, 3) := by decide +kernel
theorem dX2_check_56 : decode cX2_check 56 = .ok (.dup, 1) := by decide +kernel
theorem dX2_check_57 : decode cX2_check 57 = .ok (.ldc 151, 2) := by decide +kernel
theorem dX2_check_59 : decode cX2_check 59 = .ok (.invokespecial 42, 3) := by decide +kernel
theorem dX2_check_62 : decode cX2_check 62 = .ok (.athrow, 1) := by decide +kernel
theorem dX2_check_63 : decode cX2_check 63 = .ok (.aload 4, 2) := by decide +kernel
theorem dX2_check_65 : decode cX2_check 65 = .ok (.iload_n 3, 1) := by decide +kernel
theorem dX2_check_66 : decode cX2_check 66 = .ok (.putfield 144, 3) := by decide +kernel
theorem dX2_check_69 : decode cX2_check 69 = .ok (.iload_n 3, 1) := by decide +kernel
theorem dX2_check_70 : decode cX2_check 70 = .ok (.ifCond .ne 9, 3) := by decide +kernel
theorem dX2_check_73 : decode cX2_check 73 = .ok (.aload 4, 2) := by decide +kernel
theorem dX2_check_75 : decode cX2_check 75 = .ok (.iconst 2, 1) := by decide +kernel
theorem dX2_check_76 : decode cX2_check 76 = .ok (.putfield 130, 3) := by decide +kernel
theorem dX2_check_79 : decode cX2_check 79 = .ok (.aload 4, 2) := by decide +kernel
theorem dX2_check_81 : decode cX2_check 81 = .ok (.getfield 130, 3) := by decide +kernel
theorem dX2_check_84 : decode cX2_check 84 = .ok (.ireturn, 1) := by decide +kernel
theorem dX2_lose_0 : decode cX2_lose 0 = .ok (.aload_n 0, 1) := by decide +kernel
theorem dX2_lose_1 : decode cX2_lose 1 = .ok (.iload_n 1, 1) := by decide +kernel
theorem dX2_lose_2 : decode cX2_lose 2 = .ok (.invokevirtual 50, 3) := by decide +kernel
theorem dX2_lose_5 : decode cX2_lose 5 = .ok (.astore_n 2, 1) := by decide +kernel
theorem dX2_lose_6 : decode cX2_lose 6 = .ok (.aload_n 2, 1) := by decide +kernel
theorem dX2_lose_7 : decode cX2_lose 7 = .ok (.getfield 66, 3) := by decide +kernel
theorem dX2_lose_10 : decode cX2_lose 10 = .ok (.ifCond .eq 13, 3) := by decide +kernel
theorem dX2_lose_13 : decode cX2_lose 13 = .ok (.new 38, 3) := by decide +kernel
theorem dX2_lose_16 : decode cX2_lose 16 = .ok (.dup, 1) := by decide +kernel
theorem dX2_lose_17 : decode cX2_lose 17 = .ok (.ldc 153, 2) := by decide +kernel
theorem dX2_lose_19 : decode cX2_lose 19 = .ok (.invokespecial 42, 3) := by decide +kernel
theorem dX2_lose_22 : decode cX2_lose 22 = .ok (.athrow, 1) := by decide +kernel
theorem dX2_lose_23 : decode cX2_lose 23 = .ok (.aload_n 2, 1) := by decide +kernel
theorem dX2_lose_24 : decode cX2_lose 24 = .ok (.iconst 1, 1) := by decide +kernel
theorem dX2_lose_25 : decode cX2_lose 25 = .ok (.putfield 66, 3) := by decide +kernel
theorem dX2_lose_28 : decode cX2_lose 28 = .ok (.aload_n 2, 1) := by decide +kernel
theorem dX2_lose_29 : decode cX2_lose 29 = .ok (.iconst (-1), 1) := by decide +kernel
theorem dX2_lose_30 : decode cX2_lose 30 = .ok (.putfield 63, 3) := by decide +kernel
theorem dX2_lose_33 : decode cX2_lose 33 = .ok (.aload_n 2, 1) := by decide +kernel
theorem dX2_lose_34 : decode cX2_lose 34 = .ok (.getfield 54, 3) := by decide +kernel
theorem dX2_lose_37 : decode cX2_lose 37 = .ok (.ireturn, 1) := by decide +kernel
theorem dX2_find_0 : decode cX2_find 0 = .ok (.aload_n 0, 1) := by decide +kernel
theorem dX2_find_1 : decode cX2_find 1 = .ok (.iload_n 1, 1) := by decide +kernel
theorem dX2_find_2 : decode cX2_find 2 = .ok (.invokevirtual 50, 3) := by decide +kernel
theorem dX2_find_5 : decode cX2_find 5 = .ok (.astore_n 2, 1) := by decide +kernel
theorem dX2_find_6 : decode cX2_find 6 = .ok (.aload_n 2, 1) := by decide +kernel
theorem dX2_find_7 : decode cX2_find 7 = .ok (.getfield 66, 3) := by decide +kernel
theorem dX2_find_10 : decode cX2_find 10 = .ok (.ifCond .ne 13, 3) := by decide +kernel
theorem dX2_find_13 : decode cX2_find 13 = .ok (.new 38, 3) := by decide +kernel
theorem dX2_find_16 : decode cX2_find 16 = .ok (.dup, 1) := by decide +kernel
theorem dX2_find_17 : decode cX2_find 17 = .ok (.ldc 155, 2) := by decide +kernel
theorem dX2_find_19 : decode cX2_find 19 = .ok (.invokespecial 42, 3) := by decide +kernel
theorem dX2_find_22 : decode cX2_find 22 = .ok (.athrow, 1) := by decide +kernel
theorem dX2_find_23 : decode cX2_find 23 = .ok (.aload_n 2, 1) := by decide +kernel
theorem dX2_find_24 : decode cX2_find 24 = .ok (.iconst 0, 1) := by decide +kernel
theorem dX2_find_25 : decode cX2_find 25 = .ok (.putfield 66, 3) := by decide +kernel
theorem dX2_find_28 : decode cX2_find 28 = .ok (.aload_n 2, 1) := by decide +kernel
theorem dX2_find_29 : decode cX2_find 29 = .ok (.invokevirtual 157, 3) := by decide +kernel
theorem dX2_find_32 : decode cX2_find 32 = .ok (.ireturn, 1) := by decide +kernel
theorem dX2_certify_0 : decode cX2_certify 0 = .ok (.iload_n 1, 1) := by decide +kernel
theorem dX2_certify_1 : decode cX2_certify 1 = .ok (.invokestatic 24, 3) := by decide +kernel
theorem dX2_certify_4 : decode cX2_certify 4 = .ok (.iconst 0, 1) := by decide +kernel
theorem dX2_certify_5 : decode cX2_certify 5 = .ok (.istore_n 2, 1) := by decide +kernel
theorem dX2_certify_6 : decode cX2_certify 6 = .ok (.aload_n 0, 1) := by decide +kernel
theorem dX2_certify_7 : decode cX2_certify 7 = .ok (.getfield 11, 3) := by decide +kernel
theorem dX2_certify_10 : decode cX2_certify 10 = .ok (.astore_n 3, 1) := by decide +kernel
theorem dX2_certify_11 : decode cX2_certify 11 = .ok (.aload_n 3, 1) := by decide +kernel
theorem dX2_certify_12 : decode cX2_certify 12 = .ok (.arraylength, 1) := by decide +kernel
theorem dX2_certify_13 : decode cX2_certify 13 = .ok (.istore 4, 2) := by decide +kernel
theorem dX2_certify_15 : decode cX2_certify 15 = .ok (.iconst 0, 1) := by decide +kernel
theorem dX2_certify_16 : decode cX2_certify 16 = .ok (.istore 5, 2) := by decide +kernel
theorem dX2_certify_18 : decode cX2_certify 18 = .ok (.iload 5, 2) := by decide +kernel
theorem dX2_certify_20 : decode cX2_certify 20 = .ok (.iload 4, 2) := by decide +kernel
theorem dX2_certify_22 : decode cX2_certify 22 = .ok (.if_icmp .ge 49, 3) := by decide +kernel
theorem dX2_certify_25 : decode cX2_certify 25 = .ok (.aload_n 3, 1) := by decide +kernel
theorem dX2_certify_26 : decode cX2_certify 26 = .ok (.iload 5, 2) := by decide +kernel
theorem dX2_certify_28 : decode cX2_certify 28 = .ok (.aaload, 1) := by decide +kernel
theorem dX2_certify_29 : decode cX2_certify 29 = .ok (.astore 6, 2) := by decide +kernel
theorem dX2_certify_31 : decode cX2_certify 31 = .ok (.aload 6, 2) := by decide +kernel
theorem dX2_certify_33 : decode cX2_certify 33 = .ok (.ifnull 32, 3) := by decide +kernel
theorem dX2_certify_36 : decode cX2_certify 36 = .ok (.aload 6, 2) := by decide +kernel
theorem dX2_certify_38 : decode cX2_certify 38 = .ok (.getfield 54, 3) := by decide +kernel
theorem dX2_certify_41 : decode cX2_certify 41 = .ok (.iload_n 1, 1) := by decide +kernel
theorem dX2_certify_42 : decode cX2_certify 42 = .ok (.if_icmp .ne 23, 3) := by decide +kernel
theorem dX2_certify_45 : decode cX2_certify 45 = .ok (.aload 6, 2) := by decide +kernel
theorem dX2_certify_47 : decode cX2_certify 47 = .ok (.invokevirtual 161, 3) := by decide +kernel
theorem dX2_certify_50 : decode cX2_certify 50 = .ok (.ifCond .eq 15, 3) := by decide +kernel
theorem dX2_certify_53 : decode cX2_certify 53 = .ok (.aload 6, 2) := by decide +kernel
theorem dX2_certify_55 : decode cX2_certify 55 = .ok (.aload_n 0, 1) := by decide +kernel
theorem dX2_certify_56 : decode cX2_certify 56 = .ok (.getfield 164, 3) := by decide +kernel
theorem dX2_certify_59 : decode cX2_certify 59 = .ok (.putfield 167, 3) := by decide +kernel
theorem dX2_certify_62 : decode cX2_certify 62 = .ok (.iinc 2 1, 3) := by decide +kernel
theorem dX2_certify_65 : decode cX2_certify 65 = .ok (.iinc 5 1, 3) := by decide +kernel
theorem dX2_certify_68 : decode cX2_certify 68 = .ok (.goto (-50), 3) := by decide +kernel
theorem dX2_certify_71 : decode cX2_certify 71 = .ok (.iload_n 2, 1) := by decide +kernel
theorem dX2_certify_72 : decode cX2_certify 72 = .ok (.ifCond .ne 13, 3) := by decide +kernel
theorem dX2_certify_75 : decode cX2_certify 75 = .ok (.new 170, 3) := by decide +kernel
theorem dX2_certify_78 : decode cX2_certify 78 = .ok (.dup, 1) := by decide +kernel
theorem dX2_certify_79 : decode cX2_certify 79 = .ok (.ldc 172, 2) := by decide +kernel
theorem dX2_certify_81 : decode cX2_certify 81 = .ok (.invokespecial 174, 3) := by decide +kernel
theorem dX2_certify_84 : decode cX2_certify 84 = .ok (.athrow, 1) := by decide +kernel
theorem dX2_certify_85 : decode cX2_certify 85 = .ok (.aload_n 0, 1) := by decide +kernel
theorem dX2_certify_86 : decode cX2_certify 86 = .ok (.dup, 1) := by decide +kernel
theorem dX2_certify_87 : decode cX2_certify 87 = .ok (.getfield 164, 3) := by decide +kernel
theorem dX2_certify_90 : decode cX2_certify 90 = .ok (.iconst 1, 1) := by decide +kernel
theorem dX2_certify_91 : decode cX2_certify 91 = .ok (.iadd, 1) := by decide +kernel
theorem dX2_certify_92 : decode cX2_certify 92 = .ok (.putfield 164, 3) := by decide +kernel
theorem dX2_certify_95 : decode cX2_certify 95 = .ok (.iload_n 2, 1) := by decide +kernel
theorem dX2_certify_96 : decode cX2_certify 96 = .ok (.ireturn, 1) := by decide +kernel
theorem dX2_disks_0 : decode cX2_disks 0 = .ok (.aload_n 0, 1) := by decide +kernel
theorem dX2_disks_1 : decode cX2_disks 1 = .ok (.getfield 34, 3) := by decide +kernel
theorem dX2_disks_4 : decode cX2_disks 4 = .ok (.ireturn, 1) := by decide +kernel
theorem dX2_keeperOf_0 : decode cX2_keeperOf 0 = .ok (.aload_n 0, 1) := by decide +kernel
theorem dX2_keeperOf_1 : decode cX2_keeperOf 1 = .ok (.iload_n 1, 1) := by decide +kernel
theorem dX2_keeperOf_2 : decode cX2_keeperOf 2 = .ok (.invokevirtual 50, 3) := by decide +kernel
theorem dX2_keeperOf_5 : decode cX2_keeperOf 5 = .ok (.getfield 54, 3) := by decide +kernel
theorem dX2_keeperOf_8 : decode cX2_keeperOf 8 = .ok (.ireturn, 1) := by decide +kernel
theorem dX2_keeperByLog_0 : decode cX2_keeperByLog 0 = .ok (.aload_n 0, 1) := by decide +kernel
theorem dX2_keeperByLog_1 : decode cX2_keeperByLog 1 = .ok (.iload_n 1, 1) := by decide +kernel
theorem dX2_keeperByLog_2 : decode cX2_keeperByLog 2 = .ok (.invokevirtual 50, 3) := by decide +kernel
theorem dX2_keeperByLog_5 : decode cX2_keeperByLog 5 = .ok (.getfield 175, 3) := by decide +kernel
theorem dX2_keeperByLog_8 : decode cX2_keeperByLog 8 = .ok (.ireturn, 1) := by decide +kernel
theorem dX2_crateOf_0 : decode cX2_crateOf 0 = .ok (.aload_n 0, 1) := by decide +kernel
theorem dX2_crateOf_1 : decode cX2_crateOf 1 = .ok (.iload_n 1, 1) := by decide +kernel
theorem dX2_crateOf_2 : decode cX2_crateOf 2 = .ok (.invokevirtual 50, 3) := by decide +kernel
theorem dX2_crateOf_5 : decode cX2_crateOf 5 = .ok (.invokevirtual 157, 3) := by decide +kernel
theorem dX2_crateOf_8 : decode cX2_crateOf 8 = .ok (.ireturn, 1) := by decide +kernel
theorem dX2_stateOf_0 : decode cX2_stateOf 0 = .ok (.aload_n 0, 1) := by decide +kernel
theorem dX2_stateOf_1 : decode cX2_stateOf 1 = .ok (.iload_n 1, 1) := by decide +kernel
theorem dX2_stateOf_2 : decode cX2_stateOf 2 = .ok (.invokevirtual 50, 3) := by decide +kernel
theorem dX2_stateOf_5 : decode cX2_stateOf 5 = .ok (.getfield 130, 3) := by decide +kernel
theorem dX2_stateOf_8 : decode cX2_stateOf 8 = .ok (.ireturn, 1) := by decide +kernel
theorem dX2_isDone_0 : decode cX2_isDone 0 = .ok (.aload_n 0, 1) := by decide +kernel
theorem dX2_isDone_1 : decode cX2_isDone 1 = .ok (.iload_n 1, 1) := by decide +kernel
theorem dX2_isDone_2 : decode cX2_isDone 2 = .ok (.invokevirtual 50, 3) := by decide +kernel
theorem dX2_isDone_5 : decode cX2_isDone 5 = .ok (.invokevirtual 178, 3) := by decide +kernel
theorem dX2_isDone_8 : decode cX2_isDone 8 = .ok (.ireturn, 1) := by decide +kernel
theorem dX2_offeredTo_0 : decode cX2_offeredTo 0 = .ok (.aload_n 0, 1) := by decide +kernel
theorem dX2_offeredTo_1 : decode cX2_offeredTo 1 = .ok (.iload_n 1, 1) := by decide +kernel
theorem dX2_offeredTo_2 : decode cX2_offeredTo 2 = .ok (.invokevirtual 50, 3) := by decide +kernel
theorem dX2_offeredTo_5 : decode cX2_offeredTo 5 = .ok (.getfield 63, 3) := by decide +kernel
theorem dX2_offeredTo_8 : decode cX2_offeredTo 8 = .ok (.ireturn, 1) := by decide +kernel
theorem dX2_certificateOf_0 : decode cX2_certificateOf 0 = .ok (.aload_n 0, 1) := by decide +kernel
theorem dX2_certificateOf_1 : decode cX2_certificateOf 1 = .ok (.iload_n 1, 1) := by decide +kernel
theorem dX2_certificateOf_2 : decode cX2_certificateOf 2 = .ok (.invokevirtual 50, 3) := by decide +kernel
theorem dX2_certificateOf_5 : decode cX2_certificateOf 5 = .ok (.getfield 167, 3) := by decide +kernel
theorem dX2_certificateOf_8 : decode cX2_certificateOf 8 = .ok (.ireturn, 1) := by decide +kernel
theorem dX2_crateKeeper_0 : decode cX2_crateKeeper 0 = .ok (.aload_n 0, 1) := by decide +kernel
theorem dX2_crateKeeper_1 : decode cX2_crateKeeper 1 = .ok (.iload_n 1, 1) := by decide +kernel
theorem dX2_crateKeeper_2 : decode cX2_crateKeeper 2 = .ok (.invokevirtual 72, 3) := by decide +kernel
theorem dX2_crateKeeper_5 : decode cX2_crateKeeper 5 = .ok (.getfield 80, 3) := by decide +kernel
theorem dX2_crateKeeper_8 : decode cX2_crateKeeper 8 = .ok (.ireturn, 1) := by decide +kernel
theorem dX2_sealOf_0 : decode cX2_sealOf 0 = .ok (.aload_n 0, 1) := by decide +kernel
theorem dX2_sealOf_1 : decode cX2_sealOf 1 = .ok (.iload_n 1, 1) := by decide +kernel
theorem dX2_sealOf_2 : decode cX2_sealOf 2 = .ok (.invokevirtual 72, 3) := by decide +kernel
theorem dX2_sealOf_5 : decode cX2_sealOf 5 = .ok (.getfield 101, 3) := by decide +kernel
theorem dX2_sealOf_8 : decode cX2_sealOf 8 = .ok (.ireturn, 1) := by decide +kernel
theorem dX2_has_0 : decode cX2_has 0 = .ok (.iload_n 1, 1) := by decide +kernel
theorem dX2_has_1 : decode cX2_has 1 = .ok (.invokestatic 24, 3) := by decide +kernel
theorem dX2_has_4 : decode cX2_has 4 = .ok (.iconst 0, 1) := by decide +kernel
theorem dX2_has_5 : decode cX2_has 5 = .ok (.istore_n 2, 1) := by decide +kernel
theorem dX2_has_6 : decode cX2_has 6 = .ok (.aload_n 0, 1) := by decide +kernel
theorem dX2_has_7 : decode cX2_has 7 = .ok (.getfield 11, 3) := by decide +kernel
theorem dX2_has_10 : decode cX2_has 10 = .ok (.astore_n 3, 1) := by decide +kernel
theorem dX2_has_11 : decode cX2_has 11 = .ok (.aload_n 3, 1) := by decide +kernel
theorem dX2_has_12 : decode cX2_has 12 = .ok (.arraylength, 1) := by decide +kernel
theorem dX2_has_13 : decode cX2_has 13 = .ok (.istore 4, 2) := by decide +kernel
theorem dX2_has_15 : decode cX2_has 15 = .ok (.iconst 0, 1) := by decide +kernel
theorem dX2_has_16 : decode cX2_has 16 = .ok (.istore 5, 2) := by decide +kernel
theorem dX2_has_18 : decode cX2_has 18 = .ok (.iload 5, 2) := by decide +kernel
theorem dX2_has_20 : decode cX2_has 20 = .ok (.iload 4, 2) := by decide +kernel
theorem dX2_has_22 : decode cX2_has 22 = .ok (.if_icmp .ge 32, 3) := by decide +kernel
theorem dX2_has_25 : decode cX2_has 25 = .ok (.aload_n 3, 1) := by decide +kernel
theorem dX2_has_26 : decode cX2_has 26 = .ok (.iload 5, 2) := by decide +kernel
theorem dX2_has_28 : decode cX2_has 28 = .ok (.aaload, 1) := by decide +kernel
theorem dX2_has_29 : decode cX2_has 29 = .ok (.astore 6, 2) := by decide +kernel
theorem dX2_has_31 : decode cX2_has 31 = .ok (.aload 6, 2) := by decide +kernel
theorem dX2_has_33 : decode cX2_has 33 = .ok (.ifnull 15, 3) := by decide +kernel
theorem dX2_has_36 : decode cX2_has 36 = .ok (.aload 6, 2) := by decide +kernel
theorem dX2_has_38 : decode cX2_has 38 = .ok (.getfield 54, 3) := by decide +kernel
theorem dX2_has_41 : decode cX2_has 41 = .ok (.iload_n 1, 1) := by decide +kernel
theorem dX2_has_42 : decode cX2_has 42 = .ok (.if_icmp .ne 6, 3) := by decide +kernel
theorem dX2_has_45 : decode cX2_has 45 = .ok (.iinc 2 1, 3) := by decide +kernel
theorem dX2_has_48 : decode cX2_has 48 = .ok (.iinc 5 1, 3) := by decide +kernel
theorem dX2_has_51 : decode cX2_has 51 = .ok (.goto (-33), 3) := by decide +kernel
theorem dX2_has_54 : decode cX2_has 54 = .ok (.iload_n 2, 1) := by decide +kernel
theorem dX2_has_55 : decode cX2_has 55 = .ok (.ireturn, 1) := by decide +kernel
theorem dX2_missing_0 : decode cX2_missing 0 = .ok (.iconst 0, 1) := by decide +kernel
theorem dX2_missing_1 : decode cX2_missing 1 = .ok (.istore_n 1, 1) := by decide +kernel
theorem dX2_missing_2 : decode cX2_missing 2 = .ok (.aload_n 0, 1) := by decide +kernel
theorem dX2_missing_3 : decode cX2_missing 3 = .ok (.getfield 11, 3) := by decide +kernel
theorem dX2_missing_6 : decode cX2_missing 6 = .ok (.astore_n 2, 1) := by decide +kernel
theorem dX2_missing_7 : decode cX2_missing 7 = .ok (.aload_n 2, 1) := by decide +kernel
theorem dX2_missing_8 : decode cX2_missing 8 = .ok (.arraylength, 1) := by decide +kernel
theorem dX2_missing_9 : decode cX2_missing 9 = .ok (.istore_n 3, 1) := by decide +kernel
theorem dX2_missing_10 : decode cX2_missing 10 = .ok (.iconst 0, 1) := by decide +kernel
theorem dX2_missing_11 : decode cX2_missing 11 = .ok (.istore 4, 2) := by decide +kernel
theorem dX2_missing_13 : decode cX2_missing 13 = .ok (.iload 4, 2) := by decide +kernel
theorem dX2_missing_15 : decode cX2_missing 15 = .ok (.iload_n 3, 1) := by decide +kernel
theorem dX2_missing_16 : decode cX2_missing 16 = .ok (.if_icmp .ge 31, 3) := by decide +kernel
theorem dX2_missing_19 : decode cX2_missing 19 = .ok (.aload_n 2, 1) := by decide +kernel
theorem dX2_missing_20 : decode cX2_missing 20 = .ok (.iload 4, 2) := by decide +kernel
theorem dX2_missing_22 : decode cX2_missing 22 = .ok (.aaload, 1) := by decide +kernel
theorem dX2_missing_23 : decode cX2_missing 23 = .ok (.astore 5, 2) := by decide +kernel
theorem dX2_missing_25 : decode cX2_missing 25 = .ok (.aload 5, 2) := by decide +kernel
theorem dX2_missing_27 : decode cX2_missing 27 = .ok (.ifnull 14, 3) := by decide +kernel
theorem dX2_missing_30 : decode cX2_missing 30 = .ok (.aload 5, 2) := by decide +kernel
theorem dX2_missing_32 : decode cX2_missing 32 = .ok (.getfield 66, 3) := by decide +kernel
theorem dX2_missing_35 : decode cX2_missing 35 = .ok (.ifCond .eq 6, 3) := by decide +kernel
theorem dX2_missing_38 : decode cX2_missing 38 = .ok (.iinc 1 1, 3) := by decide +kernel
theorem dX2_missing_41 : decode cX2_missing 41 = .ok (.iinc 4 1, 3) := by decide +kernel
theorem dX2_missing_44 : decode cX2_missing 44 = .ok (.goto (-31), 3) := by decide +kernel
theorem dX2_missing_47 : decode cX2_missing 47 = .ok (.iload_n 1, 1) := by decide +kernel
theorem dX2_missing_48 : decode cX2_missing 48 = .ok (.ireturn, 1) := by decide +kernel
theorem dX2_oddCounts_0 : decode cX2_oddCounts 0 = .ok (.aload_n 0, 1) := by decide +kernel
theorem dX2_oddCounts_1 : decode cX2_oddCounts 1 = .ok (.getfield 111, 3) := by decide +kernel
theorem dX2_oddCounts_4 : decode cX2_oddCounts 4 = .ok (.ireturn, 1) := by decide +kernel
theorem dX2_logged_0 : decode cX2_logged 0 = .ok (.aload_n 0, 1) := by decide +kernel
theorem dX2_logged_1 : decode cX2_logged 1 = .ok (.getfield 181, 3) := by decide +kernel
theorem dX2_logged_4 : decode cX2_logged 4 = .ok (.ireturn, 1) := by decide +kernel
theorem dX2_certificates_0 : decode cX2_certificates 0 = .ok (.aload_n 0, 1) := by decide +kernel
theorem dX2_certificates_1 : decode cX2_certificates 1 = .ok (.getfield 164, 3) := by decide +kernel
theorem dX2_certificates_4 : decode cX2_certificates 4 = .ok (.ireturn, 1) := by decide +kernel
theorem dX2_findDisk_0 : decode cX2_findDisk 0 = .ok (.iload_n 1, 1) := by decide +kernel
theorem dX2_findDisk_1 : decode cX2_findDisk 1 = .ok (.ifCond .lt 12, 3) := by decide +kernel
theorem dX2_findDisk_4 : decode cX2_findDisk 4 = .ok (.iload_n 1, 1) := by decide +kernel
theorem dX2_findDisk_5 : decode cX2_findDisk 5 = .ok (.aload_n 0, 1) := by decide +kernel
theorem dX2_findDisk_6 : decode cX2_findDisk 6 = .ok (.getfield 11, 3) := by decide +kernel
theorem dX2_findDisk_9 : decode cX2_findDisk 9 = .ok (.arraylength, 1) := by decide +kernel
theorem dX2_findDisk_10 : decode cX2_findDisk 10 = .ok (.if_icmp .lt 7, 3) := by decide +kernel
theorem dX2_findDisk_13 : decode cX2_findDisk 13 = .ok (.aconst_null, 1) := by decide +kernel
theorem dX2_findDisk_14 : decode cX2_findDisk 14 = .ok (.goto 9, 3) := by decide +kernel
theorem dX2_findDisk_17 : decode cX2_findDisk 17 = .ok (.aload_n 0, 1) := by decide +kernel
theorem dX2_findDisk_18 : decode cX2_findDisk 18 = .ok (.getfield 11, 3) := by decide +kernel
theorem dX2_findDisk_21 : decode cX2_findDisk 21 = .ok (.iload_n 1, 1) := by decide +kernel
theorem dX2_findDisk_22 : decode cX2_findDisk 22 = .ok (.aaload, 1) := by decide +kernel
theorem dX2_findDisk_23 : decode cX2_findDisk 23 = .ok (.astore_n 2, 1) := by decide +kernel
theorem dX2_findDisk_24 : decode cX2_findDisk 24 = .ok (.aload_n 2, 1) := by decide +kernel
theorem dX2_findDisk_25 : decode cX2_findDisk 25 = .ok (.ifnonnull 13, 3) := by decide +kernel
theorem dX2_findDisk_28 : decode cX2_findDisk 28 = .ok (.new 184, 3) := by decide +kernel
theorem dX2_findDisk_31 : decode cX2_findDisk 31 = .ok (.dup, 1) := by decide +kernel
theorem dX2_findDisk_32 : decode cX2_findDisk 32 = .ok (.ldc 186, 2) := by decide +kernel
theorem dX2_findDisk_34 : decode cX2_findDisk 34 = .ok (.invokespecial 188, 3) := by decide +kernel
theorem dX2_findDisk_37 : decode cX2_findDisk 37 = .ok (.athrow, 1) := by decide +kernel
theorem dX2_findDisk_38 : decode cX2_findDisk 38 = .ok (.aload_n 2, 1) := by decide +kernel
theorem dX2_findDisk_39 : decode cX2_findDisk 39 = .ok (.areturn, 1) := by decide +kernel
theorem dX2_findCrate_0 : decode cX2_findCrate 0 = .ok (.iload_n 1, 1) := by decide +kernel
theorem dX2_findCrate_1 : decode cX2_findCrate 1 = .ok (.ifCond .lt 12, 3) := by decide +kernel
theorem dX2_findCrate_4 : decode cX2_findCrate 4 = .ok (.iload_n 1, 1) := by decide +kernel
theorem dX2_findCrate_5 : decode cX2_findCrate 5 = .ok (.aload_n 0, 1) := by decide +kernel
theorem dX2_findCrate_6 : decode cX2_findCrate 6 = .ok (.getfield 17, 3) := by decide +kernel
theorem dX2_findCrate_9 : decode cX2_findCrate 9 = .ok (.arraylength, 1) := by decide +kernel
theorem dX2_findCrate_10 : decode cX2_findCrate 10 = .ok (.if_icmp .lt 7, 3) := by decide +kernel
theorem dX2_findCrate_13 : decode cX2_findCrate 13 = .ok (.aconst_null, 1) := by decide +kernel
theorem dX2_findCrate_14 : decode cX2_findCrate 14 = .ok (.goto 9, 3) := by decide +kernel
theorem dX2_findCrate_17 : decode cX2_findCrate 17 = .ok (.aload_n 0, 1) := by decide +kernel
theorem dX2_findCrate_18 : decode cX2_findCrate 18 = .ok (.getfield 17, 3) := by decide +kernel
theorem dX2_findCrate_21 : decode cX2_findCrate 21 = .ok (.iload_n 1, 1) := by decide +kernel
theorem dX2_findCrate_22 : decode cX2_findCrate 22 = .ok (.aaload, 1) := by decide +kernel
theorem dX2_findCrate_23 : decode cX2_findCrate 23 = .ok (.astore_n 2, 1) := by decide +kernel
theorem dX2_findCrate_24 : decode cX2_findCrate 24 = .ok (.aload_n 2, 1) := by decide +kernel
theorem dX2_findCrate_25 : decode cX2_findCrate 25 = .ok (.ifnonnull 13, 3) := by decide +kernel
theorem dX2_findCrate_28 : decode cX2_findCrate 28 = .ok (.new 184, 3) := by decide +kernel
theorem dX2_findCrate_31 : decode cX2_findCrate 31 = .ok (.dup, 1) := by decide +kernel
theorem dX2_findCrate_32 : decode cX2_findCrate 32 = .ok (.ldc 189, 2) := by decide +kernel
theorem dX2_findCrate_34 : decode cX2_findCrate 34 = .ok (.invokespecial 188, 3) := by decide +kernel
theorem dX2_findCrate_37 : decode cX2_findCrate 37 = .ok (.athrow, 1) := by decide +kernel
theorem dX2_findCrate_38 : decode cX2_findCrate 38 = .ok (.aload_n 2, 1) := by decide +kernel
theorem dX2_findCrate_39 : decode cX2_findCrate 39 = .ok (.areturn, 1) := by decide +kernel
theorem dX2_countDisksIn_0 : decode cX2_countDisksIn 0 = .ok (.iconst 0, 1) := by decide +kernel
theorem dX2_countDisksIn_1 : decode cX2_countDisksIn 1 = .ok (.istore_n 2, 1) := by decide +kernel
theorem dX2_countDisksIn_2 : decode cX2_countDisksIn 2 = .ok (.aload_n 0, 1) := by decide +kernel
theorem dX2_countDisksIn_3 : decode cX2_countDisksIn 3 = .ok (.getfield 11, 3) := by decide +kernel
theorem dX2_countDisksIn_6 : decode cX2_countDisksIn 6 = .ok (.astore_n 3, 1) := by decide +kernel
theorem dX2_countDisksIn_7 : decode cX2_countDisksIn 7 = .ok (.aload_n 3, 1) := by decide +kernel
theorem dX2_countDisksIn_8 : decode cX2_countDisksIn 8 = .ok (.arraylength, 1) := by decide +kernel
theorem dX2_countDisksIn_9 : decode cX2_countDisksIn 9 = .ok (.istore 4, 2) := by decide +kernel
theorem dX2_countDisksIn_11 : decode cX2_countDisksIn 11 = .ok (.iconst 0, 1) := by decide +kernel
theorem dX2_countDisksIn_12 : decode cX2_countDisksIn 12 = .ok (.istore 5, 2) := by decide +kernel
theorem dX2_countDisksIn_14 : decode cX2_countDisksIn 14 = .ok (.iload 5, 2) := by decide +kernel
theorem dX2_countDisksIn_16 : decode cX2_countDisksIn 16 = .ok (.iload 4, 2) := by decide +kernel
theorem dX2_countDisksIn_18 : decode cX2_countDisksIn 18 = .ok (.if_icmp .ge 35, 3) := by decide +kernel
theorem dX2_countDisksIn_21 : decode cX2_countDisksIn 21 = .ok (.aload_n 3, 1) := by decide +kernel
theorem dX2_countDisksIn_22 : decode cX2_countDisksIn 22 = .ok (.iload 5, 2) := by decide +kernel
theorem dX2_countDisksIn_24 : decode cX2_countDisksIn 24 = .ok (.aaload, 1) := by decide +kernel
theorem dX2_countDisksIn_25 : decode cX2_countDisksIn 25 = .ok (.astore 6, 2) := by decide +kernel
theorem dX2_countDisksIn_27 : decode cX2_countDisksIn 27 = .ok (.aload 6, 2) := by decide +kernel
theorem dX2_countDisksIn_29 : decode cX2_countDisksIn 29 = .ok (.ifnull 18, 3) := by decide +kernel
theorem dX2_countDisksIn_32 : decode cX2_countDisksIn 32 = .ok (.aload 6, 2) := by decide +kernel
theorem dX2_countDisksIn_34 : decode cX2_countDisksIn 34 = .ok (.invokevirtual 157, 3) := by decide +kernel
theorem dX2_countDisksIn_37 : decode cX2_countDisksIn 37 = .ok (.aload_n 1, 1) := by decide +kernel
theorem dX2_countDisksIn_38 : decode cX2_countDisksIn 38 = .ok (.getfield 93, 3) := by decide +kernel
theorem dX2_countDisksIn_41 : decode cX2_countDisksIn 41 = .ok (.if_icmp .ne 6, 3) := by decide +kernel
theorem dX2_countDisksIn_44 : decode cX2_countDisksIn 44 = .ok (.iinc 2 1, 3) := by decide +kernel
theorem dX2_countDisksIn_47 : decode cX2_countDisksIn 47 = .ok (.iinc 5 1, 3) := by decide +kernel
theorem dX2_countDisksIn_50 : decode cX2_countDisksIn 50 = .ok (.goto (-36), 3) := by decide +kernel
theorem dX2_countDisksIn_53 : decode cX2_countDisksIn 53 = .ok (.iload_n 2, 1) := by decide +kernel
theorem dX2_countDisksIn_54 : decode cX2_countDisksIn 54 = .ok (.ireturn, 1) := by decide +kernel
theorem dX2_handOverDisksIn_0 : decode cX2_handOverDisksIn 0 = .ok (.aload_n 0, 1) := by decide +kernel
theorem dX2_handOverDisksIn_1 : decode cX2_handOverDisksIn 1 = .ok (.getfield 11, 3) := by decide +kernel
theorem dX2_handOverDisksIn_4 : decode cX2_handOverDisksIn 4 = .ok (.astore_n 2, 1) := by decide +kernel
theorem dX2_handOverDisksIn_5 : decode cX2_handOverDisksIn 5 = .ok (.aload_n 2, 1) := by decide +kernel
theorem dX2_handOverDisksIn_6 : decode cX2_handOverDisksIn 6 = .ok (.arraylength, 1) := by decide +kernel
theorem dX2_handOverDisksIn_7 : decode cX2_handOverDisksIn 7 = .ok (.istore_n 3, 1) := by decide +kernel
theorem dX2_handOverDisksIn_8 : decode cX2_handOverDisksIn 8 = .ok (.iconst 0, 1) := by decide +kernel
theorem dX2_handOverDisksIn_9 : decode cX2_handOverDisksIn 9 = .ok (.istore 4, 2) := by decide +kernel
theorem dX2_handOverDisksIn_11 : decode cX2_handOverDisksIn 11 = .ok (.iload 4, 2) := by decide +kernel
theorem dX2_handOverDisksIn_13 : decode cX2_handOverDisksIn 13 = .ok (.iload_n 3, 1) := by decide +kernel
theorem dX2_handOverDisksIn_14 : decode cX2_handOverDisksIn 14 = .ok (.if_icmp .ge 42, 3) := by decide +kernel
theorem dX2_handOverDisksIn_17 : decode cX2_handOverDisksIn 17 = .ok (.aload_n 2, 1) := by decide +kernel
theorem dX2_handOverDisksIn_18 : decode cX2_handOverDisksIn 18 = .ok (.iload 4, 2) := by decide +kernel
theorem dX2_handOverDisksIn_20 : decode cX2_handOverDisksIn 20 = .ok (.aaload, 1) := by decide +kernel
theorem dX2_handOverDisksIn_21 : decode cX2_handOverDisksIn 21 = .ok (.astore 5, 2) := by decide +kernel
theorem dX2_handOverDisksIn_23 : decode cX2_handOverDisksIn 23 = .ok (.aload 5, 2) := by decide +kernel
theorem dX2_handOverDisksIn_25 : decode cX2_handOverDisksIn 25 = .ok (.ifnull 25, 3) := by decide +kernel
theorem dX2_handOverDisksIn_28 : decode cX2_handOverDisksIn 28 = .ok (.aload 5, 2) := by decide +kernel
theorem dX2_handOverDisksIn_30 : decode cX2_handOverDisksIn 30 = .ok (.invokevirtual 157, 3) := by decide +kernel
theorem dX2_handOverDisksIn_33 : decode cX2_handOverDisksIn 33 = .ok (.aload_n 1, 1) := by decide +kernel
theorem dX2_handOverDisksIn_34 : decode cX2_handOverDisksIn 34 = .ok (.getfield 93, 3) := by decide +kernel
theorem dX2_handOverDisksIn_37 : decode cX2_handOverDisksIn 37 = .ok (.if_icmp .ne 13, 3) := by decide +kernel
theorem dX2_handOverDisksIn_40 : decode cX2_handOverDisksIn 40 = .ok (.aload_n 0, 1) := by decide +kernel
theorem dX2_handOverDisksIn_41 : decode cX2_handOverDisksIn 41 = .ok (.aload 5, 2) := by decide +kernel
theorem dX2_handOverDisksIn_43 : decode cX2_handOverDisksIn 43 = .ok (.aload_n 1, 1) := by decide +kernel
theorem dX2_handOverDisksIn_44 : decode cX2_handOverDisksIn 44 = .ok (.getfield 80, 3) := by decide +kernel
theorem dX2_handOverDisksIn_47 : decode cX2_handOverDisksIn 47 = .ok (.invokevirtual 46, 3) := by decide +kernel
theorem dX2_handOverDisksIn_50 : decode cX2_handOverDisksIn 50 = .ok (.iinc 4 1, 3) := by decide +kernel
theorem dX2_handOverDisksIn_53 : decode cX2_handOverDisksIn 53 = .ok (.goto (-42), 3) := by decide +kernel
theorem dX2_handOverDisksIn_56 : decode cX2_handOverDisksIn 56 = .ok (.return_, 1) := by decide +kernel
theorem dX2_handOver_0 : decode cX2_handOver 0 = .ok (.aload_n 1, 1) := by decide +kernel
theorem dX2_handOver_1 : decode cX2_handOver 1 = .ok (.iload_n 2, 1) := by decide +kernel
theorem dX2_handOver_2 : decode cX2_handOver 2 = .ok (.putfield 54, 3) := by decide +kernel
theorem dX2_handOver_5 : decode cX2_handOver 5 = .ok (.aload_n 1, 1) := by decide +kernel
theorem dX2_handOver_6 : decode cX2_handOver 6 = .ok (.iload_n 2, 1) := by decide +kernel
theorem dX2_handOver_7 : decode cX2_handOver 7 = .ok (.putfield 175, 3) := by decide +kernel
theorem dX2_handOver_10 : decode cX2_handOver 10 = .ok (.aload_n 0, 1) := by decide +kernel
theorem dX2_handOver_11 : decode cX2_handOver 11 = .ok (.dup, 1) := by decide +kernel
theorem dX2_handOver_12 : decode cX2_handOver 12 = .ok (.getfield 181, 3) := by decide +kernel
theorem dX2_handOver_15 : decode cX2_handOver 15 = .ok (.iconst 1, 1) := by decide +kernel
theorem dX2_handOver_16 : decode cX2_handOver 16 = .ok (.iadd, 1) := by decide +kernel
theorem dX2_handOver_17 : decode cX2_handOver 17 = .ok (.putfield 181, 3) := by decide +kernel
theorem dX2_handOver_20 : decode cX2_handOver 20 = .ok (.return_, 1) := by decide +kernel
theorem dX2_requireKeeper_0 : decode cX2_requireKeeper 0 = .ok (.iload_n 0, 1) := by decide +kernel
theorem dX2_requireKeeper_1 : decode cX2_requireKeeper 1 = .ok (.ifCond .lt 9, 3) := by decide +kernel
theorem dX2_requireKeeper_4 : decode cX2_requireKeeper 4 = .ok (.iload_n 0, 1) := by decide +kernel
theorem dX2_requireKeeper_5 : decode cX2_requireKeeper 5 = .ok (.bipush 8, 2) := by decide +kernel
theorem dX2_requireKeeper_7 : decode cX2_requireKeeper 7 = .ok (.if_icmp .lt 13, 3) := by decide +kernel
theorem dX2_requireKeeper_10 : decode cX2_requireKeeper 10 = .ok (.new 184, 3) := by decide +kernel
theorem dX2_requireKeeper_13 : decode cX2_requireKeeper 13 = .ok (.dup, 1) := by decide +kernel
theorem dX2_requireKeeper_14 : decode cX2_requireKeeper 14 = .ok (.ldc 191, 2) := by decide +kernel
theorem dX2_requireKeeper_16 : decode cX2_requireKeeper 16 = .ok (.invokespecial 188, 3) := by decide +kernel
theorem dX2_requireKeeper_19 : decode cX2_requireKeeper 19 = .ok (.athrow, 1) := by decide +kernel
theorem dX2_requireKeeper_20 : decode cX2_requireKeeper 20 = .ok (.return_, 1) := by decide +kernel
theorem dX2_requireLoose_0 : decode cX2_requireLoose 0 = .ok (.aload_n 0, 1) := by decide +kernel
theorem dX2_requireLoose_1 : decode cX2_requireLoose 1 = .ok (.getfield 66, 3) := by decide +kernel
theorem dX2_requireLoose_4 : decode cX2_requireLoose 4 = .ok (.ifCond .ne 18, 3) := by decide +kernel
theorem dX2_requireLoose_7 : decode cX2_requireLoose 7 = .ok (.aload_n 0, 1) := by decide +kernel
theorem dX2_requireLoose_8 : decode cX2_requireLoose 8 = .ok (.getfield 63, 3) := by decide +kernel
theorem dX2_requireLoose_11 : decode cX2_requireLoose 11 = .ok (.iconst (-1), 1) := by decide +kernel
theorem dX2_requireLoose_12 : decode cX2_requireLoose 12 = .ok (.if_icmp .ne 10, 3) := by decide +kernel
theorem dX2_requireLoose_15 : decode cX2_requireLoose 15 = .ok (.aload_n 0, 1) := by decide +kernel
theorem dX2_requireLoose_16 : decode cX2_requireLoose 16 = .ok (.getfield 83, 3) := by decide +kernel
theorem dX2_requireLoose_19 : decode cX2_requireLoose 19 = .ok (.ifnull 13, 3) := by decide +kernel
theorem dX2_requireLoose_22 : decode cX2_requireLoose 22 = .ok (.new 38, 3) := by decide +kernel
theorem dX2_requireLoose_25 : decode cX2_requireLoose 25 = .ok (.dup, 1) := by decide +kernel
theorem dX2_requireLoose_26 : decode cX2_requireLoose 26 = .ok (.ldc 193, 2) := by decide +kernel
theorem dX2_requireLoose_28 : decode cX2_requireLoose 28 = .ok (.invokespecial 42, 3) := by decide +kernel
theorem dX2_requireLoose_31 : decode cX2_requireLoose 31 = .ok (.athrow, 1) := by decide +kernel
theorem dX2_requireLoose_32 : decode cX2_requireLoose 32 = .ok (.return_, 1) := by decide +kernel
theorem dX2_requireWithinReach_0 : decode cX2_requireWithinReach 0 = .ok (.aload_n 0, 1) := by decide +kernel
theorem dX2_requireWithinReach_1 : decode cX2_requireWithinReach 1 = .ok (.getfield 66, 3) := by decide +kernel
theorem dX2_requireWithinReach_4 : decode cX2_requireWithinReach 4 = .ok (.ifCond .ne 18, 3) := by decide +kernel
theorem dX2_requireWithinReach_7 : decode cX2_requireWithinReach 7 = .ok (.aload_n 0, 1) := by decide +kernel
theorem dX2_requireWithinReach_8 : decode cX2_requireWithinReach 8 = .ok (.getfield 63, 3) := by decide +kernel
theorem dX2_requireWithinReach_11 : decode cX2_requireWithinReach 11 = .ok (.iconst (-1), 1) := by decide +kernel
theorem dX2_requireWithinReach_12 : decode cX2_requireWithinReach 12 = .ok (.if_icmp .ne 10, 3) := by decide +kernel
theorem dX2_requireWithinReach_15 : decode cX2_requireWithinReach 15 = .ok (.aload_n 0, 1) := by decide +kernel
theorem dX2_requireWithinReach_16 : decode cX2_requireWithinReach 16 = .ok (.invokevirtual 195, 3) := by decide +kernel
theorem dX2_requireWithinReach_19 : decode cX2_requireWithinReach 19 = .ok (.ifCond .eq 13, 3) := by decide +kernel
theorem dX2_requireWithinReach_22 : decode cX2_requireWithinReach 22 = .ok (.new 38, 3) := by decide +kernel
theorem dX2_requireWithinReach_25 : decode cX2_requireWithinReach 25 = .ok (.dup, 1) := by decide +kernel
theorem dX2_requireWithinReach_26 : decode cX2_requireWithinReach 26 = .ok (.ldc 198, 2) := by decide +kernel
theorem dX2_requireWithinReach_28 : decode cX2_requireWithinReach 28 = .ok (.invokespecial 42, 3) := by decide +kernel
theorem dX2_requireWithinReach_31 : decode cX2_requireWithinReach 31 = .ok (.athrow, 1) := by decide +kernel
theorem dX2_requireWithinReach_32 : decode cX2_requireWithinReach 32 = .ok (.return_, 1) := by decide +kernel
theorem dX2_requireWitnessIsNotKeeper_0 : decode cX2_requireWitnessIsNotKeeper 0 = .ok (.iload_n 1, 1) := by decide +kernel
theorem dX2_requireWitnessIsNotKeeper_1 : decode cX2_requireWitnessIsNotKeeper 1 = .ok (.aload_n 0, 1) := by decide +kernel
theorem dX2_requireWitnessIsNotKeeper_2 : decode cX2_requireWitnessIsNotKeeper 2 = .ok (.getfield 54, 3) := by decide +kernel
theorem dX2_requireWitnessIsNotKeeper_5 : decode cX2_requireWitnessIsNotKeeper 5 = .ok (.if_icmp .ne 13, 3) := by decide +kernel
theorem dX2_requireWitnessIsNotKeeper_8 : decode cX2_requireWitnessIsNotKeeper 8 = .ok (.new 27, 3) := by decide +kernel
theorem dX2_requireWitnessIsNotKeeper_11 : decode cX2_requireWitnessIsNotKeeper 11 = .ok (.dup, 1) := by decide +kernel
theorem dX2_requireWitnessIsNotKeeper_12 : decode cX2_requireWitnessIsNotKeeper 12 = .ok (.ldc 200, 2) := by decide +kernel
theorem dX2_requireWitnessIsNotKeeper_14 : decode cX2_requireWitnessIsNotKeeper 14 = .ok (.invokespecial 31, 3) := by decide +kernel
theorem dX2_requireWitnessIsNotKeeper_17 : decode cX2_requireWitnessIsNotKeeper 17 = .ok (.athrow, 1) := by decide +kernel
theorem dX2_requireWitnessIsNotKeeper_18 : decode cX2_requireWitnessIsNotKeeper 18 = .ok (.return_, 1) := by decide +kernel
theorem dL_draw_0 : decode cL_draw 0 = .ok (.iload_n 1, 1) := by decide +kernel
theorem dL_draw_1 : decode cL_draw 1 = .ok (.aload_n 0, 1) := by decide +kernel
theorem dL_draw_2 : decode cL_draw 2 = .ok (.arraylength, 1) := by decide +kernel
theorem dL_draw_3 : decode cL_draw 3 = .ok (.if_icmp .ge 9, 3) := by decide +kernel
theorem dL_draw_6 : decode cL_draw 6 = .ok (.aload_n 0, 1) := by decide +kernel
theorem dL_draw_7 : decode cL_draw 7 = .ok (.iload_n 1, 1) := by decide +kernel
theorem dL_draw_8 : decode cL_draw 8 = .ok (.iaload, 1) := by decide +kernel
theorem dL_draw_9 : decode cL_draw 9 = .ok (.goto 14, 3) := by decide +kernel
theorem dL_draw_12 : decode cL_draw 12 = .ok (.ldc 7, 2) := by decide +kernel
theorem dL_draw_14 : decode cL_draw 14 = .ok (.iload_n 1, 1) := by decide +kernel
theorem dL_draw_15 : decode cL_draw 15 = .ok (.sipush 199, 3) := by decide +kernel
theorem dL_draw_18 : decode cL_draw 18 = .ok (.iadd, 1) := by decide +kernel
theorem dL_draw_19 : decode cL_draw 19 = .ok (.imul, 1) := by decide +kernel
theorem dL_draw_20 : decode cL_draw 20 = .ok (.ldc 8, 2) := by decide +kernel
theorem dL_draw_22 : decode cL_draw 22 = .ok (.iadd, 1) := by decide +kernel
theorem dL_draw_23 : decode cL_draw 23 = .ok (.istore_n 3, 1) := by decide +kernel
theorem dL_draw_24 : decode cL_draw 24 = .ok (.iload_n 3, 1) := by decide +kernel
theorem dL_draw_25 : decode cL_draw 25 = .ok (.ldc 9, 2) := by decide +kernel
theorem dL_draw_27 : decode cL_draw 27 = .ok (.iand, 1) := by decide +kernel
theorem dL_draw_28 : decode cL_draw 28 = .ok (.iload_n 2, 1) := by decide +kernel
theorem dL_draw_29 : decode cL_draw 29 = .ok (.irem, 1) := by decide +kernel
theorem dL_draw_30 : decode cL_draw 30 = .ok (.ireturn, 1) := by decide +kernel
theorem dL_asks_0 : decode cL_asks 0 = .ok (.iload_n 1, 1) := by decide +kernel
theorem dL_asks_1 : decode cL_asks 1 = .ok (.ifCond .ne 12, 3) := by decide +kernel
theorem dL_asks_4 : decode cL_asks 4 = .ok (.aload_n 0, 1) := by decide +kernel
theorem dL_asks_5 : decode cL_asks 5 = .ok (.iload_n 2, 1) := by decide +kernel
theorem dL_asks_6 : decode cL_asks 6 = .ok (.iload_n 3, 1) := by decide +kernel
theorem dL_asks_7 : decode cL_asks 7 = .ok (.invokevirtual 10, 3) := by decide +kernel
theorem dL_asks_10 : decode cL_asks 10 = .ok (.goto 184, 3) := by decide +kernel
theorem dL_asks_13 : decode cL_asks 13 = .ok (.iload_n 1, 1) := by decide +kernel
theorem dL_asks_14 : decode cL_asks 14 = .ok (.iconst 1, 1) := by decide +kernel
theorem dL_asks_15 : decode cL_asks 15 = .ok (.if_icmp .ne 20, 3) := by decide +kernel
theorem dL_asks_18 : decode cL_asks 18 = .ok (.aload_n 0, 1) := by decide +kernel
theorem dL_asks_19 : decode cL_asks 19 = .ok (.iload_n 2, 1) := by decide +kernel
theorem dL_asks_20 : decode cL_asks 20 = .ok (.iload_n 3, 1) := by decide +kernel
theorem dL_asks_21 : decode cL_asks 21 = .ok (.ifCond .le 7, 3) := by decide +kernel
theorem dL_asks_24 : decode cL_asks 24 = .ok (.iconst 1, 1) := by decide +kernel
theorem dL_asks_25 : decode cL_asks 25 = .ok (.goto 4, 3) := by decide +kernel
theorem dL_asks_28 : decode cL_asks 28 = .ok (.iconst 0, 1) := by decide +kernel
theorem dL_asks_29 : decode cL_asks 29 = .ok (.invokevirtual 16, 3) := by decide +kernel
theorem dL_asks_32 : decode cL_asks 32 = .ok (.goto 162, 3) := by decide +kernel
theorem dL_asks_35 : decode cL_asks 35 = .ok (.iload_n 1, 1) := by decide +kernel
theorem dL_asks_36 : decode cL_asks 36 = .ok (.iconst 2, 1) := by decide +kernel
theorem dL_asks_37 : decode cL_asks 37 = .ok (.if_icmp .ne 12, 3) := by decide +kernel
theorem dL_asks_40 : decode cL_asks 40 = .ok (.aload_n 0, 1) := by decide +kernel
theorem dL_asks_41 : decode cL_asks 41 = .ok (.iload_n 2, 1) := by decide +kernel
theorem dL_asks_42 : decode cL_asks 42 = .ok (.iload_n 3, 1) := by decide +kernel
theorem dL_asks_43 : decode cL_asks 43 = .ok (.invokevirtual 20, 3) := by decide +kernel
theorem dL_asks_46 : decode cL_asks 46 = .ok (.goto 148, 3) := by decide +kernel
theorem dL_asks_49 : decode cL_asks 49 = .ok (.iload_n 1, 1) := by decide +kernel
theorem dL_asks_50 : decode cL_asks 50 = .ok (.iconst 3, 1) := by decide +kernel
theorem dL_asks_51 : decode cL_asks 51 = .ok (.if_icmp .ne 11, 3) := by decide +kernel
theorem dL_asks_54 : decode cL_asks 54 = .ok (.aload_n 0, 1) := by decide +kernel
theorem dL_asks_55 : decode cL_asks 55 = .ok (.iload_n 2, 1) := by decide +kernel
theorem dL_asks_56 : decode cL_asks 56 = .ok (.invokevirtual 23, 3) := by decide +kernel
theorem dL_asks_59 : decode cL_asks 59 = .ok (.goto 135, 3) := by decide +kernel
theorem dL_asks_62 : decode cL_asks 62 = .ok (.iload_n 1, 1) := by decide +kernel
theorem dL_asks_63 : decode cL_asks 63 = .ok (.iconst 4, 1) := by decide +kernel
theorem dL_asks_64 : decode cL_asks 64 = .ok (.if_icmp .ne 14, 3) := by decide +kernel
theorem dL_asks_67 : decode cL_asks 67 = .ok (.aload_n 0, 1) := by decide +kernel
theorem dL_asks_68 : decode cL_asks 68 = .ok (.iload_n 2, 1) := by decide +kernel
theorem dL_asks_69 : decode cL_asks 69 = .ok (.iload_n 3, 1) := by decide +kernel
theorem dL_asks_70 : decode cL_asks 70 = .ok (.iload 4, 2) := by decide +kernel
theorem dL_asks_72 : decode cL_asks 72 = .ok (.invokevirtual 27, 3) := by decide +kernel
theorem dL_asks_75 : decode cL_asks 75 = .ok (.goto 119, 3) := by decide +kernel
theorem dL_asks_78 : decode cL_asks 78 = .ok (.iload_n 1, 1) := by decide +kernel
theorem dL_asks_79 : decode cL_asks 79 = .ok (.iconst 5, 1) := by decide +kernel
theorem dL_asks_80 : decode cL_asks 80 = .ok (.if_icmp .ne 12, 3) := by decide +kernel
theorem dL_asks_83 : decode cL_asks 83 = .ok (.aload_n 0, 1) := by decide +kernel
theorem dL_asks_84 : decode cL_asks 84 = .ok (.iload_n 2, 1) := by decide +kernel
theorem dL_asks_85 : decode cL_asks 85 = .ok (.iload_n 3, 1) := by decide +kernel
theorem dL_asks_86 : decode cL_asks 86 = .ok (.invokevirtual 31, 3) := by decide +kernel
theorem dL_asks_89 : decode cL_asks 89 = .ok (.goto 105, 3) := by decide +kernel
theorem dL_asks_92 : decode cL_asks 92 = .ok (.iload_n 1, 1) := by decide +kernel
theorem dL_asks_93 : decode cL_asks 93 = .ok (.bipush 6, 2) := by decide +kernel
theorem dL_asks_95 : decode cL_asks 95 = .ok (.if_icmp .ne 22, 3) := by decide +kernel
theorem dL_asks_98 : decode cL_asks 98 = .ok (.aload_n 0, 1) := by decide +kernel
theorem dL_asks_99 : decode cL_asks 99 = .ok (.iload_n 2, 1) := by decide +kernel
theorem dL_asks_100 : decode cL_asks 100 = .ok (.iload_n 3, 1) := by decide +kernel
theorem dL_asks_101 : decode cL_asks 101 = .ok (.iload 4, 2) := by decide +kernel
theorem dL_asks_103 : decode cL_asks 103 = .ok (.ifCond .le 7, 3) := by decide +kernel
theorem dL_asks_106 : decode cL_asks 106 = .ok (.iconst 1, 1) := by decide +kernel
theorem dL_asks_107 : decode cL_asks 107 = .ok (.goto 4, 3) := by decide +kernel
theorem dL_asks_110 : decode cL_asks 110 = .ok (.iconst 0, 1) := by decide +kernel
theorem dL_asks_111 : decode cL_asks 111 = .ok (.invokevirtual 34, 3) := by decide +kernel
theorem dL_asks_114 : decode cL_asks 114 = .ok (.goto 80, 3) := by decide +kernel
theorem dL_asks_117 : decode cL_asks 117 = .ok (.iload_n 1, 1) := by decide +kernel
theorem dL_asks_118 : decode cL_asks 118 = .ok (.bipush 7, 2) := by decide +kernel
theorem dL_asks_120 : decode cL_asks 120 = .ok (.if_icmp .ne 11, 3) := by decide +kernel
theorem dL_asks_123 : decode cL_asks 123 = .ok (.aload_n 0, 1) := by decide +kernel
theorem dL_asks_124 : decode cL_asks 124 = .ok (.iload_n 2, 1) := by decide +kernel
theorem dL_asks_125 : decode cL_asks 125 = .ok (.invokevirtual 38, 3) := by decide +kernel
theorem dL_asks_128 : decode cL_asks 128 = .ok (.goto 66, 3) := by decide +kernel
theorem dL_asks_131 : decode cL_asks 131 = .ok (.iload_n 1, 1) := by decide +kernel
theorem dL_asks_132 : decode cL_asks 132 = .ok (.bipush 8, 2) := by decide +kernel
theorem dL_asks_134 : decode cL_asks 134 = .ok (.if_icmp .ne 11, 3) := by decide +kernel
theorem dL_asks_137 : decode cL_asks 137 = .ok (.aload_n 0, 1) := by decide +kernel
theorem dL_asks_138 : decode cL_asks 138 = .ok (.iload_n 2, 1) := by decide +kernel
theorem dL_asks_139 : decode cL_asks 139 = .ok (.invokevirtual 41, 3) := by decide +kernel
theorem dL_asks_142 : decode cL_asks 142 = .ok (.goto 52, 3) := by decide +kernel
theorem dL_asks_145 : decode cL_asks 145 = .ok (.iload_n 1, 1) := by decide +kernel
theorem dL_asks_146 : decode cL_asks 146 = .ok (.bipush 9, 2) := by decide +kernel
theorem dL_asks_148 : decode cL_asks 148 = .ok (.if_icmp .ne 11, 3) := by decide +kernel
theorem dL_asks_151 : decode cL_asks 151 = .ok (.aload_n 0, 1) := by decide +kernel
theorem dL_asks_152 : decode cL_asks 152 = .ok (.iload_n 2, 1) := by decide +kernel
theorem dL_asks_153 : decode cL_asks 153 = .ok (.invokevirtual 44, 3) := by decide +kernel
theorem dL_asks_156 : decode cL_asks 156 = .ok (.goto 38, 3) := by decide +kernel
theorem dL_asks_159 : decode cL_asks 159 = .ok (.iload_n 1, 1) := by decide +kernel
theorem dL_asks_160 : decode cL_asks 160 = .ok (.bipush 10, 2) := by decide +kernel
theorem dL_asks_162 : decode cL_asks 162 = .ok (.if_icmp .ne 12, 3) := by decide +kernel
theorem dL_asks_165 : decode cL_asks 165 = .ok (.aload_n 0, 1) := by decide +kernel
theorem dL_asks_166 : decode cL_asks 166 = .ok (.iload_n 2, 1) := by decide +kernel
theorem dL_asks_167 : decode cL_asks 167 = .ok (.iload_n 3, 1) := by decide +kernel
theorem dL_asks_168 : decode cL_asks 168 = .ok (.invokevirtual 47, 3) := by decide +kernel
theorem dL_asks_171 : decode cL_asks 171 = .ok (.goto 23, 3) := by decide +kernel
theorem dL_asks_174 : decode cL_asks 174 = .ok (.iload_n 1, 1) := by decide +kernel
theorem dL_asks_175 : decode cL_asks 175 = .ok (.bipush 11, 2) := by decide +kernel
theorem dL_asks_177 : decode cL_asks 177 = .ok (.if_icmp .ne 12, 3) := by decide +kernel
theorem dL_asks_180 : decode cL_asks 180 = .ok (.aload_n 0, 1) := by decide +kernel
theorem dL_asks_181 : decode cL_asks 181 = .ok (.iload_n 2, 1) := by decide +kernel
theorem dL_asks_182 : decode cL_asks 182 = .ok (.iload_n 3, 1) := by decide +kernel
theorem dL_asks_183 : decode cL_asks 183 = .ok (.invokevirtual 50, 3) := by decide +kernel
theorem dL_asks_186 : decode cL_asks 186 = .ok (.goto 8, 3) := by decide +kernel
theorem dL_asks_189 : decode cL_asks 189 = .ok (.aload_n 0, 1) := by decide +kernel
theorem dL_asks_190 : decode cL_asks 190 = .ok (.iload_n 2, 1) := by decide +kernel
theorem dL_asks_191 : decode cL_asks 191 = .ok (.invokevirtual 53, 3) := by decide +kernel
theorem dL_asks_194 : decode cL_asks 194 = .ok (.ireturn, 1) := by decide +kernel
theorem dL_asks_195 : decode cL_asks 195 = .ok (.astore 5, 2) := by decide +kernel
theorem dL_asks_197 : decode cL_asks 197 = .ok (.bipush (-8), 2) := by decide +kernel
theorem dL_asks_199 : decode cL_asks 199 = .ok (.ireturn, 1) := by decide +kernel
theorem dL_asks_200 : decode cL_asks 200 = .ok (.astore 5, 2) := by decide +kernel
theorem dL_asks_202 : decode cL_asks 202 = .ok (.bipush (-9), 2) := by decide +kernel
theorem dL_asks_204 : decode cL_asks 204 = .ok (.ireturn, 1) := by decide +kernel
theorem dL_asks_205 : decode cL_asks 205 = .ok (.astore 5, 2) := by decide +kernel
theorem dL_asks_207 : decode cL_asks 207 = .ok (.bipush (-10), 2) := by decide +kernel
theorem dL_asks_209 : decode cL_asks 209 = .ok (.ireturn, 1) := by decide +kernel
theorem dL_disk_0 : decode cL_disk 0 = .ok (.aload_n 0, 1) := by decide +kernel
theorem dL_disk_1 : decode cL_disk 1 = .ok (.iload_n 1, 1) := by decide +kernel
theorem dL_disk_2 : decode cL_disk 2 = .ok (.invokevirtual 62, 3) := by decide +kernel
theorem dL_disk_5 : decode cL_disk 5 = .ok (.bipush 8, 2) := by decide +kernel
theorem dL_disk_7 : decode cL_disk 7 = .ok (.aload_n 0, 1) := by decide +kernel
theorem dL_disk_8 : decode cL_disk 8 = .ok (.iload_n 1, 1) := by decide +kernel
theorem dL_disk_9 : decode cL_disk 9 = .ok (.invokevirtual 65, 3) := by decide +kernel
theorem dL_disk_12 : decode cL_disk 12 = .ok (.iconst 1, 1) := by decide +kernel
theorem dL_disk_13 : decode cL_disk 13 = .ok (.iadd, 1) := by decide +kernel
theorem dL_disk_14 : decode cL_disk 14 = .ok (.imul, 1) := by decide +kernel
theorem dL_disk_15 : decode cL_disk 15 = .ok (.iadd, 1) := by decide +kernel
theorem dL_disk_16 : decode cL_disk 16 = .ok (.bipush 88, 2) := by decide +kernel
theorem dL_disk_18 : decode cL_disk 18 = .ok (.aload_n 0, 1) := by decide +kernel
theorem dL_disk_19 : decode cL_disk 19 = .ok (.iload_n 1, 1) := by decide +kernel
theorem dL_disk_20 : decode cL_disk 20 = .ok (.invokevirtual 68, 3) := by decide +kernel
theorem dL_disk_23 : decode cL_disk 23 = .ok (.imul, 1) := by decide +kernel
theorem dL_disk_24 : decode cL_disk 24 = .ok (.iadd, 1) := by decide +kernel
theorem dL_disk_25 : decode cL_disk 25 = .ok (.sipush 352, 3) := by decide +kernel
theorem dL_disk_28 : decode cL_disk 28 = .ok (.aload_n 0, 1) := by decide +kernel
theorem dL_disk_29 : decode cL_disk 29 = .ok (.iload_n 1, 1) := by decide +kernel
theorem dL_disk_30 : decode cL_disk 30 = .ok (.invokevirtual 71, 3) := by decide +kernel
theorem dL_disk_33 : decode cL_disk 33 = .ok (.iconst 1, 1) := by decide +kernel
theorem dL_disk_34 : decode cL_disk 34 = .ok (.iadd, 1) := by decide +kernel
theorem dL_disk_35 : decode cL_disk 35 = .ok (.imul, 1) := by decide +kernel
theorem dL_disk_36 : decode cL_disk 36 = .ok (.iadd, 1) := by decide +kernel
theorem dL_disk_37 : decode cL_disk 37 = .ok (.sipush 3168, 3) := by decide +kernel
theorem dL_disk_40 : decode cL_disk 40 = .ok (.aload_n 0, 1) := by decide +kernel
theorem dL_disk_41 : decode cL_disk 41 = .ok (.iload_n 1, 1) := by decide +kernel
theorem dL_disk_42 : decode cL_disk 42 = .ok (.invokevirtual 74, 3) := by decide +kernel
theorem dL_disk_45 : decode cL_disk 45 = .ok (.ifCond .eq 7, 3) := by decide +kernel
theorem dL_disk_48 : decode cL_disk 48 = .ok (.iconst 1, 1) := by decide +kernel
theorem dL_disk_49 : decode cL_disk 49 = .ok (.goto 4, 3) := by decide +kernel
theorem dL_disk_52 : decode cL_disk 52 = .ok (.iconst 0, 1) := by decide +kernel
theorem dL_disk_53 : decode cL_disk 53 = .ok (.imul, 1) := by decide +kernel
theorem dL_disk_54 : decode cL_disk 54 = .ok (.iadd, 1) := by decide +kernel
theorem dL_disk_55 : decode cL_disk 55 = .ok (.sipush 6336, 3) := by decide +kernel
theorem dL_disk_58 : decode cL_disk 58 = .ok (.aload_n 0, 1) := by decide +kernel
theorem dL_disk_59 : decode cL_disk 59 = .ok (.iload_n 1, 1) := by decide +kernel
theorem dL_disk_60 : decode cL_disk 60 = .ok (.invokevirtual 78, 3) := by decide +kernel
theorem dL_disk_63 : decode cL_disk 63 = .ok (.iconst 1, 1) := by decide +kernel
theorem dL_disk_64 : decode cL_disk 64 = .ok (.iadd, 1) := by decide +kernel
theorem dL_disk_65 : decode cL_disk 65 = .ok (.imul, 1) := by decide +kernel
theorem dL_disk_66 : decode cL_disk 66 = .ok (.iadd, 1) := by decide +kernel
theorem dL_disk_67 : decode cL_disk 67 = .ok (.ireturn, 1) := by decide +kernel
theorem dL_all_0 : decode cL_all 0 = .ok (.iconst 0, 1) := by decide +kernel
theorem dL_all_1 : decode cL_all 1 = .ok (.istore_n 3, 1) := by decide +kernel
theorem dL_all_2 : decode cL_all 2 = .ok (.iload_n 3, 1) := by decide +kernel
theorem dL_all_3 : decode cL_all 3 = .ok (.aload_n 1, 1) := by decide +kernel
theorem dL_all_4 : decode cL_all 4 = .ok (.iconst 0, 1) := by decide +kernel
theorem dL_all_5 : decode cL_all 5 = .ok (.iaload, 1) := by decide +kernel
theorem dL_all_6 : decode cL_all 6 = .ok (.if_icmp .ge 17, 3) := by decide +kernel
theorem dL_all_9 : decode cL_all 9 = .ok (.aload_n 2, 1) := by decide +kernel
theorem dL_all_10 : decode cL_all 10 = .ok (.iload_n 3, 1) := by decide +kernel
theorem dL_all_11 : decode cL_all 11 = .ok (.aload_n 0, 1) := by decide +kernel
theorem dL_all_12 : decode cL_all 12 = .ok (.iload_n 3, 1) := by decide +kernel
theorem dL_all_13 : decode cL_all 13 = .ok (.invokestatic 81, 3) := by decide +kernel
theorem dL_all_16 : decode cL_all 16 = .ok (.iastore, 1) := by decide +kernel
theorem dL_all_17 : decode cL_all 17 = .ok (.iinc 3 1, 3) := by decide +kernel
theorem dL_all_20 : decode cL_all 20 = .ok (.goto (-18), 3) := by decide +kernel
theorem dL_all_23 : decode cL_all 23 = .ok (.return_, 1) := by decide +kernel
theorem dL_areSame_0 : decode cL_areSame 0 = .ok (.iconst 1, 1) := by decide +kernel
theorem dL_areSame_1 : decode cL_areSame 1 = .ok (.istore 5, 2) := by decide +kernel
theorem dL_areSame_3 : decode cL_areSame 3 = .ok (.iconst 0, 1) := by decide +kernel
theorem dL_areSame_4 : decode cL_areSame 4 = .ok (.istore 6, 2) := by decide +kernel
theorem dL_areSame_6 : decode cL_areSame 6 = .ok (.iload 6, 2) := by decide +kernel
theorem dL_areSame_8 : decode cL_areSame 8 = .ok (.aload_n 1, 1) := by decide +kernel
theorem dL_areSame_9 : decode cL_areSame 9 = .ok (.iconst 0, 1) := by decide +kernel
theorem dL_areSame_10 : decode cL_areSame 10 = .ok (.iaload, 1) := by decide +kernel
theorem dL_areSame_11 : decode cL_areSame 11 = .ok (.if_icmp .ge 45, 3) := by decide +kernel
theorem dL_areSame_14 : decode cL_areSame 14 = .ok (.iload 5, 2) := by decide +kernel
theorem dL_areSame_16 : decode cL_areSame 16 = .ok (.ifCond .eq 40, 3) := by decide +kernel
theorem dL_areSame_19 : decode cL_areSame 19 = .ok (.lload_n 3, 1) := by decide +kernel
theorem dL_areSame_20 : decode cL_areSame 20 = .ok (.iload 6, 2) := by decide +kernel
theorem dL_areSame_22 : decode cL_areSame 22 = .ok (.lshr, 1) := by decide +kernel
theorem dL_areSame_23 : decode cL_areSame 23 = .ok (.lconst 1, 1) := by decide +kernel
theorem dL_areSame_24 : decode cL_areSame 24 = .ok (.land, 1) := by decide +kernel
theorem dL_areSame_25 : decode cL_areSame 25 = .ok (.lconst 1, 1) := by decide +kernel
theorem dL_areSame_26 : decode cL_areSame 26 = .ok (.lcmp, 1) := by decide +kernel
theorem dL_areSame_27 : decode cL_areSame 27 = .ok (.ifCond .eq 16, 3) := by decide +kernel
theorem dL_areSame_30 : decode cL_areSame 30 = .ok (.aload_n 0, 1) := by decide +kernel
theorem dL_areSame_31 : decode cL_areSame 31 = .ok (.iload 6, 2) := by decide +kernel
theorem dL_areSame_33 : decode cL_areSame 33 = .ok (.invokestatic 81, 3) := by decide +kernel
theorem dL_areSame_36 : decode cL_areSame 36 = .ok (.aload_n 2, 1) := by decide +kernel
theorem dL_areSame_37 : decode cL_areSame 37 = .ok (.iload 6, 2) := by decide +kernel
theorem dL_areSame_39 : decode cL_areSame 39 = .ok (.iaload, 1) := by decide +kernel
theorem dL_areSame_40 : decode cL_areSame 40 = .ok (.if_icmp .ne 7, 3) := by decide +kernel
theorem dL_areSame_43 : decode cL_areSame 43 = .ok (.iconst 1, 1) := by decide +kernel
theorem dL_areSame_44 : decode cL_areSame 44 = .ok (.goto 4, 3) := by decide +kernel
theorem dL_areSame_47 : decode cL_areSame 47 = .ok (.iconst 0, 1) := by decide +kernel
theorem dL_areSame_48 : decode cL_areSame 48 = .ok (.istore 5, 2) := by decide +kernel
theorem dL_areSame_50 : decode cL_areSame 50 = .ok (.iinc 6 1, 3) := by decide +kernel
theorem dL_areSame_53 : decode cL_areSame 53 = .ok (.goto (-47), 3) := by decide +kernel
theorem dL_areSame_56 : decode cL_areSame 56 = .ok (.iload 5, 2) := by decide +kernel
theorem dL_areSame_58 : decode cL_areSame 58 = .ok (.ireturn, 1) := by decide +kernel
theorem dL_isMissing_0 : decode cL_isMissing 0 = .ok (.aload_n 0, 1) := by decide +kernel
theorem dL_isMissing_1 : decode cL_isMissing 1 = .ok (.iconst 0, 1) := by decide +kernel
theorem dL_isMissing_2 : decode cL_isMissing 2 = .ok (.laload, 1) := by decide +kernel
theorem dL_isMissing_3 : decode cL_isMissing 3 = .ok (.iload_n 1, 1) := by decide +kernel
theorem dL_isMissing_4 : decode cL_isMissing 4 = .ok (.lshr, 1) := by decide +kernel
theorem dL_isMissing_5 : decode cL_isMissing 5 = .ok (.lconst 1, 1) := by decide +kernel
theorem dL_isMissing_6 : decode cL_isMissing 6 = .ok (.land, 1) := by decide +kernel
theorem dL_isMissing_7 : decode cL_isMissing 7 = .ok (.lconst 1, 1) := by decide +kernel
theorem dL_isMissing_8 : decode cL_isMissing 8 = .ok (.lcmp, 1) := by decide +kernel
theorem dL_isMissing_9 : decode cL_isMissing 9 = .ok (.ifCond .ne 7, 3) := by decide +kernel
theorem dL_isMissing_12 : decode cL_isMissing 12 = .ok (.iconst 1, 1) := by decide +kernel
theorem dL_isMissing_13 : decode cL_isMissing 13 = .ok (.goto 4, 3) := by decide +kernel
theorem dL_isMissing_16 : decode cL_isMissing 16 = .ok (.iconst 0, 1) := by decide +kernel
theorem dL_isMissing_17 : decode cL_isMissing 17 = .ok (.ireturn, 1) := by decide +kernel
theorem dL_isShut_0 : decode cL_isShut 0 = .ok (.aload_n 0, 1) := by decide +kernel
theorem dL_isShut_1 : decode cL_isShut 1 = .ok (.iload_n 1, 1) := by decide +kernel
theorem dL_isShut_2 : decode cL_isShut 2 = .ok (.invokevirtual 65, 3) := by decide +kernel
theorem dL_isShut_5 : decode cL_isShut 5 = .ok (.ifCond .lt 19, 3) := by decide +kernel
theorem dL_isShut_8 : decode cL_isShut 8 = .ok (.aload_n 0, 1) := by decide +kernel
theorem dL_isShut_9 : decode cL_isShut 9 = .ok (.aload_n 0, 1) := by decide +kernel
theorem dL_isShut_10 : decode cL_isShut 10 = .ok (.iload_n 1, 1) := by decide +kernel
theorem dL_isShut_11 : decode cL_isShut 11 = .ok (.invokevirtual 65, 3) := by decide +kernel
theorem dL_isShut_14 : decode cL_isShut 14 = .ok (.invokevirtual 87, 3) := by decide +kernel
theorem dL_isShut_17 : decode cL_isShut 17 = .ok (.ifCond .lt 7, 3) := by decide +kernel
theorem dL_isShut_20 : decode cL_isShut 20 = .ok (.iconst 1, 1) := by decide +kernel
theorem dL_isShut_21 : decode cL_isShut 21 = .ok (.goto 4, 3) := by decide +kernel
theorem dL_isShut_24 : decode cL_isShut 24 = .ok (.iconst 0, 1) := by decide +kernel
theorem dL_isShut_25 : decode cL_isShut 25 = .ok (.ireturn, 1) := by decide +kernel
theorem dL_isFree_0 : decode cL_isFree 0 = .ok (.aload_n 1, 1) := by decide +kernel
theorem dL_isFree_1 : decode cL_isFree 1 = .ok (.iload_n 2, 1) := by decide +kernel
theorem dL_isFree_2 : decode cL_isFree 2 = .ok (.invokestatic 90, 3) := by decide +kernel
theorem dL_isFree_5 : decode cL_isFree 5 = .ok (.ifCond .ne 24, 3) := by decide +kernel
theorem dL_isFree_8 : decode cL_isFree 8 = .ok (.aload_n 0, 1) := by decide +kernel
theorem dL_isFree_9 : decode cL_isFree 9 = .ok (.iload_n 2, 1) := by decide +kernel
theorem dL_isFree_10 : decode cL_isFree 10 = .ok (.invokevirtual 71, 3) := by decide +kernel
theorem dL_isFree_13 : decode cL_isFree 13 = .ok (.iconst (-1), 1) := by decide +kernel
theorem dL_isFree_14 : decode cL_isFree 14 = .ok (.if_icmp .ne 15, 3) := by decide +kernel
theorem dL_isFree_17 : decode cL_isFree 17 = .ok (.aload_n 0, 1) := by decide +kernel
theorem dL_isFree_18 : decode cL_isFree 18 = .ok (.iload_n 2, 1) := by decide +kernel
theorem dL_isFree_19 : decode cL_isFree 19 = .ok (.invokestatic 94, 3) := by decide +kernel
theorem dL_isFree_22 : decode cL_isFree 22 = .ok (.ifCond .ne 7, 3) := by decide +kernel
theorem dL_isFree_25 : decode cL_isFree 25 = .ok (.iconst 1, 1) := by decide +kernel
theorem dL_isFree_26 : decode cL_isFree 26 = .ok (.goto 4, 3) := by decide +kernel
theorem dL_isFree_29 : decode cL_isFree 29 = .ok (.iconst 0, 1) := by decide +kernel
theorem dL_isFree_30 : decode cL_isFree 30 = .ok (.ireturn, 1) := by decide +kernel
theorem dL_countIn_0 : decode cL_countIn 0 = .ok (.iconst 0, 1) := by decide +kernel
theorem dL_countIn_1 : decode cL_countIn 1 = .ok (.istore_n 3, 1) := by decide +kernel
theorem dL_countIn_2 : decode cL_countIn 2 = .ok (.iconst 0, 1) := by decide +kernel
theorem dL_countIn_3 : decode cL_countIn 3 = .ok (.istore 4, 2) := by decide +kernel
theorem dL_countIn_5 : decode cL_countIn 5 = .ok (.iload 4, 2) := by decide +kernel
theorem dL_countIn_7 : decode cL_countIn 7 = .ok (.aload_n 1, 1) := by decide +kernel
theorem dL_countIn_8 : decode cL_countIn 8 = .ok (.iconst 0, 1) := by decide +kernel
theorem dL_countIn_9 : decode cL_countIn 9 = .ok (.iaload, 1) := by decide +kernel
theorem dL_countIn_10 : decode cL_countIn 10 = .ok (.if_icmp .ge 27, 3) := by decide +kernel
theorem dL_countIn_13 : decode cL_countIn 13 = .ok (.iload_n 3, 1) := by decide +kernel
theorem dL_countIn_14 : decode cL_countIn 14 = .ok (.aload_n 0, 1) := by decide +kernel
theorem dL_countIn_15 : decode cL_countIn 15 = .ok (.iload 4, 2) := by decide +kernel
theorem dL_countIn_17 : decode cL_countIn 17 = .ok (.invokevirtual 65, 3) := by decide +kernel
theorem dL_countIn_20 : decode cL_countIn 20 = .ok (.iload_n 2, 1) := by decide +kernel
theorem dL_countIn_21 : decode cL_countIn 21 = .ok (.if_icmp .ne 7, 3) := by decide +kernel
theorem dL_countIn_24 : decode cL_countIn 24 = .ok (.iconst 1, 1) := by decide +kernel
theorem dL_countIn_25 : decode cL_countIn 25 = .ok (.goto 4, 3) := by decide +kernel
theorem dL_countIn_28 : decode cL_countIn 28 = .ok (.iconst 0, 1) := by decide +kernel
theorem dL_countIn_29 : decode cL_countIn 29 = .ok (.iadd, 1) := by decide +kernel
theorem dL_countIn_30 : decode cL_countIn 30 = .ok (.istore_n 3, 1) := by decide +kernel
theorem dL_countIn_31 : decode cL_countIn 31 = .ok (.iinc 4 1, 3) := by decide +kernel
theorem dL_countIn_34 : decode cL_countIn 34 = .ok (.goto (-29), 3) := by decide +kernel
theorem dL_countIn_37 : decode cL_countIn 37 = .ok (.iload_n 3, 1) := by decide +kernel
theorem dL_countIn_38 : decode cL_countIn 38 = .ok (.ireturn, 1) := by decide +kernel
theorem dL_isBook_0 : decode cL_isBook 0 = .ok (.iconst 0, 1) := by decide +kernel
theorem dL_isBook_1 : decode cL_isBook 1 = .ok (.istore_n 3, 1) := by decide +kernel
theorem dL_isBook_2 : decode cL_isBook 2 = .ok (.iconst 0, 1) := by decide +kernel
theorem dL_isBook_3 : decode cL_isBook 3 = .ok (.istore 4, 2) := by decide +kernel
theorem dL_isBook_5 : decode cL_isBook 5 = .ok (.aload_n 0, 1) := by decide +kernel
theorem dL_isBook_6 : decode cL_isBook 6 = .ok (.invokevirtual 98, 3) := by decide +kernel
theorem dL_isBook_9 : decode cL_isBook 9 = .ok (.aload_n 1, 1) := by decide +kernel
theorem dL_isBook_10 : decode cL_isBook 10 = .ok (.iconst 0, 1) := by decide +kernel
theorem dL_isBook_11 : decode cL_isBook 11 = .ok (.iaload, 1) := by decide +kernel
theorem dL_isBook_12 : decode cL_isBook 12 = .ok (.if_icmp .ne 37, 3) := by decide +kernel
theorem dL_isBook_15 : decode cL_isBook 15 = .ok (.aload_n 0, 1) := by decide +kernel
theorem dL_isBook_16 : decode cL_isBook 16 = .ok (.invokevirtual 102, 3) := by decide +kernel
theorem dL_isBook_19 : decode cL_isBook 19 = .ok (.aload_n 1, 1) := by decide +kernel
theorem dL_isBook_20 : decode cL_isBook 20 = .ok (.iconst 1, 1) := by decide +kernel
theorem dL_isBook_21 : decode cL_isBook 21 = .ok (.iaload, 1) := by decide +kernel
theorem dL_isBook_22 : decode cL_isBook 22 = .ok (.if_icmp .ne 27, 3) := by decide +kernel
theorem dL_isBook_25 : decode cL_isBook 25 = .ok (.aload_n 0, 1) := by decide +kernel
theorem dL_isBook_26 : decode cL_isBook 26 = .ok (.invokevirtual 105, 3) := by decide +kernel
theorem dL_isBook_29 : decode cL_isBook 29 = .ok (.aload_n 1, 1) := by decide +kernel
theorem dL_isBook_30 : decode cL_isBook 30 = .ok (.iconst 2, 1) := by decide +kernel
theorem dL_isBook_31 : decode cL_isBook 31 = .ok (.iaload, 1) := by decide +kernel
theorem dL_isBook_32 : decode cL_isBook 32 = .ok (.if_icmp .ne 17, 3) := by decide +kernel
theorem dL_isBook_35 : decode cL_isBook 35 = .ok (.aload_n 0, 1) := by decide +kernel
theorem dL_isBook_36 : decode cL_isBook 36 = .ok (.invokevirtual 108, 3) := by decide +kernel
theorem dL_isBook_39 : decode cL_isBook 39 = .ok (.aload_n 1, 1) := by decide +kernel
theorem dL_isBook_40 : decode cL_isBook 40 = .ok (.iconst 4, 1) := by decide +kernel
theorem dL_isBook_41 : decode cL_isBook 41 = .ok (.iaload, 1) := by decide +kernel
theorem dL_isBook_42 : decode cL_isBook 42 = .ok (.if_icmp .ne 7, 3) := by decide +kernel
theorem dL_isBook_45 : decode cL_isBook 45 = .ok (.iconst 1, 1) := by decide +kernel
theorem dL_isBook_46 : decode cL_isBook 46 = .ok (.goto 4, 3) := by decide +kernel
theorem dL_isBook_49 : decode cL_isBook 49 = .ok (.iconst 0, 1) := by decide +kernel
theorem dL_isBook_50 : decode cL_isBook 50 = .ok (.istore 5, 2) := by decide +kernel
theorem dL_isBook_52 : decode cL_isBook 52 = .ok (.iconst 0, 1) := by decide +kernel
theorem dL_isBook_53 : decode cL_isBook 53 = .ok (.istore 6, 2) := by decide +kernel
theorem dL_isBook_55 : decode cL_isBook 55 = .ok (.iload 6, 2) := by decide +kernel
theorem dL_isBook_57 : decode cL_isBook 57 = .ok (.aload_n 1, 1) := by decide +kernel
theorem dL_isBook_58 : decode cL_isBook 58 = .ok (.iconst 0, 1) := by decide +kernel
theorem dL_isBook_59 : decode cL_isBook 59 = .ok (.iaload, 1) := by decide +kernel
theorem dL_isBook_60 : decode cL_isBook 60 = .ok (.if_icmp .ge 175, 3) := by decide +kernel
theorem dL_isBook_63 : decode cL_isBook 63 = .ok (.iload 5, 2) := by decide +kernel
theorem dL_isBook_65 : decode cL_isBook 65 = .ok (.ifCond .eq 170, 3) := by decide +kernel
theorem dL_isBook_68 : decode cL_isBook 68 = .ok (.aload_n 0, 1) := by decide +kernel
theorem dL_isBook_69 : decode cL_isBook 69 = .ok (.iload 6, 2) := by decide +kernel
theorem dL_isBook_71 : decode cL_isBook 71 = .ok (.invokevirtual 65, 3) := by decide +kernel
theorem dL_isBook_74 : decode cL_isBook 74 = .ok (.istore 7, 2) := by decide +kernel
theorem dL_isBook_76 : decode cL_isBook 76 = .ok (.aload_n 0, 1) := by decide +kernel
theorem dL_isBook_77 : decode cL_isBook 77 = .ok (.iload 6, 2) := by decide +kernel
theorem dL_isBook_79 : decode cL_isBook 79 = .ok (.invokevirtual 68, 3) := by decide +kernel
theorem dL_isBook_82 : decode cL_isBook 82 = .ok (.istore 8, 2) := by decide +kernel
theorem dL_isBook_84 : decode cL_isBook 84 = .ok (.aload_n 0, 1) := by decide +kernel
theorem dL_isBook_85 : decode cL_isBook 85 = .ok (.iload 6, 2) := by decide +kernel
theorem dL_isBook_87 : decode cL_isBook 87 = .ok (.invokevirtual 71, 3) := by decide +kernel
theorem dL_isBook_90 : decode cL_isBook 90 = .ok (.istore 9, 2) := by decide +kernel
theorem dL_isBook_92 : decode cL_isBook 92 = .ok (.iload_n 3, 1) := by decide +kernel
theorem dL_isBook_93 : decode cL_isBook 93 = .ok (.aload_n 2, 1) := by decide +kernel
theorem dL_isBook_94 : decode cL_isBook 94 = .ok (.iload 6, 2) := by decide +kernel
theorem dL_isBook_96 : decode cL_isBook 96 = .ok (.invokestatic 90, 3) := by decide +kernel
theorem dL_isBook_99 : decode cL_isBook 99 = .ok (.ifCond .eq 7, 3) := by decide +kernel
theorem dL_isBook_102 : decode cL_isBook 102 = .ok (.iconst 1, 1) := by decide +kernel
theorem dL_isBook_103 : decode cL_isBook 103 = .ok (.goto 4, 3) := by decide +kernel
theorem dL_isBook_106 : decode cL_isBook 106 = .ok (.iconst 0, 1) := by decide +kernel
theorem dL_isBook_107 : decode cL_isBook 107 = .ok (.iadd, 1) := by decide +kernel
theorem dL_isBook_108 : decode cL_isBook 108 = .ok (.istore_n 3, 1) := by decide +kernel
theorem dL_isBook_109 : decode cL_isBook 109 = .ok (.aload_n 0, 1) := by decide +kernel
theorem dL_isBook_110 : decode cL_isBook 110 = .ok (.iload 6, 2) := by decide +kernel
theorem dL_isBook_112 : decode cL_isBook 112 = .ok (.invokevirtual 111, 3) := by decide +kernel
theorem dL_isBook_115 : decode cL_isBook 115 = .ok (.aload_n 0, 1) := by decide +kernel
theorem dL_isBook_116 : decode cL_isBook 116 = .ok (.iload 6, 2) := by decide +kernel
theorem dL_isBook_118 : decode cL_isBook 118 = .ok (.invokevirtual 62, 3) := by decide +kernel
theorem dL_isBook_121 : decode cL_isBook 121 = .ok (.if_icmp .ne 105, 3) := by decide +kernel
theorem dL_isBook_124 : decode cL_isBook 124 = .ok (.iload 7, 2) := by decide +kernel
theorem dL_isBook_126 : decode cL_isBook 126 = .ok (.iconst (-1), 1) := by decide +kernel
theorem dL_isBook_127 : decode cL_isBook 127 = .ok (.if_icmp .eq 24, 3) := by decide +kernel
theorem dL_isBook_130 : decode cL_isBook 130 = .ok (.aload_n 0, 1) := by decide +kernel
theorem dL_isBook_131 : decode cL_isBook 131 = .ok (.iload 7, 2) := by decide +kernel
theorem dL_isBook_133 : decode cL_isBook 133 = .ok (.invokevirtual 114, 3) := by decide +kernel
theorem dL_isBook_136 : decode cL_isBook 136 = .ok (.aload_n 0, 1) := by decide +kernel
theorem dL_isBook_137 : decode cL_isBook 137 = .ok (.iload 6, 2) := by decide +kernel
theorem dL_isBook_139 : decode cL_isBook 139 = .ok (.invokevirtual 62, 3) := by decide +kernel
theorem dL_isBook_142 : decode cL_isBook 142 = .ok (.if_icmp .ne 84, 3) := by decide +kernel
theorem dL_isBook_145 : decode cL_isBook 145 = .ok (.iload 9, 2) := by decide +kernel
theorem dL_isBook_147 : decode cL_isBook 147 = .ok (.iconst (-1), 1) := by decide +kernel
theorem dL_isBook_148 : decode cL_isBook 148 = .ok (.if_icmp .ne 78, 3) := by decide +kernel
theorem dL_isBook_151 : decode cL_isBook 151 = .ok (.iload 9, 2) := by decide +kernel
theorem dL_isBook_153 : decode cL_isBook 153 = .ok (.aload_n 0, 1) := by decide +kernel
theorem dL_isBook_154 : decode cL_isBook 154 = .ok (.iload 6, 2) := by decide +kernel
theorem dL_isBook_156 : decode cL_isBook 156 = .ok (.invokevirtual 62, 3) := by decide +kernel
theorem dL_isBook_159 : decode cL_isBook 159 = .ok (.if_icmp .eq 67, 3) := by decide +kernel
theorem dL_isBook_162 : decode cL_isBook 162 = .ok (.iload 9, 2) := by decide +kernel
theorem dL_isBook_164 : decode cL_isBook 164 = .ok (.iconst (-1), 1) := by decide +kernel
theorem dL_isBook_165 : decode cL_isBook 165 = .ok (.if_icmp .eq 12, 3) := by decide +kernel
theorem dL_isBook_168 : decode cL_isBook 168 = .ok (.aload_n 2, 1) := by decide +kernel
theorem dL_isBook_169 : decode cL_isBook 169 = .ok (.iload 6, 2) := by decide +kernel
theorem dL_isBook_171 : decode cL_isBook 171 = .ok (.invokestatic 90, 3) := by decide +kernel
theorem dL_isBook_174 : decode cL_isBook 174 = .ok (.ifCond .ne 52, 3) := by decide +kernel
theorem dL_isBook_177 : decode cL_isBook 177 = .ok (.iload 8, 2) := by decide +kernel
theorem dL_isBook_179 : decode cL_isBook 179 = .ok (.iconst 3, 1) := by decide +kernel
theorem dL_isBook_180 : decode cL_isBook 180 = .ok (.if_icmp .ne 15, 3) := by decide +kernel
theorem dL_isBook_183 : decode cL_isBook 183 = .ok (.aload_n 0, 1) := by decide +kernel
theorem dL_isBook_184 : decode cL_isBook 184 = .ok (.iload 6, 2) := by decide +kernel
theorem dL_isBook_186 : decode cL_isBook 186 = .ok (.invokevirtual 74, 3) := by decide +kernel
theorem dL_isBook_189 : decode cL_isBook 189 = .ok (.ifCond .eq 37, 3) := by decide +kernel
theorem dL_isBook_192 : decode cL_isBook 192 = .ok (.goto 18, 3) := by decide +kernel
theorem dL_isBook_195 : decode cL_isBook 195 = .ok (.iload 8, 2) := by decide +kernel
theorem dL_isBook_197 : decode cL_isBook 197 = .ok (.iconst 1, 1) := by decide +kernel
theorem dL_isBook_198 : decode cL_isBook 198 = .ok (.if_icmp .eq 12, 3) := by decide +kernel
theorem dL_isBook_201 : decode cL_isBook 201 = .ok (.aload_n 0, 1) := by decide +kernel
theorem dL_isBook_202 : decode cL_isBook 202 = .ok (.iload 6, 2) := by decide +kernel
theorem dL_isBook_204 : decode cL_isBook 204 = .ok (.invokevirtual 74, 3) := by decide +kernel
theorem dL_isBook_207 : decode cL_isBook 207 = .ok (.ifCond .ne 19, 3) := by decide +kernel
theorem dL_isBook_210 : decode cL_isBook 210 = .ok (.aload_n 0, 1) := by decide +kernel
theorem dL_isBook_211 : decode cL_isBook 211 = .ok (.iload 6, 2) := by decide +kernel
theorem dL_isBook_213 : decode cL_isBook 213 = .ok (.invokevirtual 78, 3) := by decide +kernel
theorem dL_isBook_216 : decode cL_isBook 216 = .ok (.aload_n 1, 1) := by decide +kernel
theorem dL_isBook_217 : decode cL_isBook 217 = .ok (.iconst 2, 1) := by decide +kernel
theorem dL_isBook_218 : decode cL_isBook 218 = .ok (.iaload, 1) := by decide +kernel
theorem dL_isBook_219 : decode cL_isBook 219 = .ok (.if_icmp .ge 7, 3) := by decide +kernel
theorem dL_isBook_222 : decode cL_isBook 222 = .ok (.iconst 1, 1) := by decide +kernel
theorem dL_isBook_223 : decode cL_isBook 223 = .ok (.goto 4, 3) := by decide +kernel
theorem dL_isBook_226 : decode cL_isBook 226 = .ok (.iconst 0, 1) := by decide +kernel
theorem dL_isBook_227 : decode cL_isBook 227 = .ok (.istore 5, 2) := by decide +kernel
theorem dL_isBook_229 : decode cL_isBook 229 = .ok (.iinc 6 1, 3) := by decide +kernel
theorem dL_isBook_232 : decode cL_isBook 232 = .ok (.goto (-177), 3) := by decide +kernel
theorem dL_isBook_235 : decode cL_isBook 235 = .ok (.iconst 0, 1) := by decide +kernel
theorem dL_isBook_236 : decode cL_isBook 236 = .ok (.istore 6, 2) := by decide +kernel
theorem dL_isBook_238 : decode cL_isBook 238 = .ok (.iload 6, 2) := by decide +kernel
theorem dL_isBook_240 : decode cL_isBook 240 = .ok (.bipush 8, 2) := by decide +kernel
theorem dL_isBook_242 : decode cL_isBook 242 = .ok (.if_icmp .ge 20, 3) := by decide +kernel
theorem dL_isBook_245 : decode cL_isBook 245 = .ok (.iload 4, 2) := by decide +kernel
theorem dL_isBook_247 : decode cL_isBook 247 = .ok (.aload_n 0, 1) := by decide +kernel
theorem dL_isBook_248 : decode cL_isBook 248 = .ok (.iload 6, 2) := by decide +kernel
theorem dL_isBook_250 : decode cL_isBook 250 = .ok (.invokevirtual 117, 3) := by decide +kernel
theorem dL_isBook_253 : decode cL_isBook 253 = .ok (.iadd, 1) := by decide +kernel
theorem dL_isBook_254 : decode cL_isBook 254 = .ok (.istore 4, 2) := by decide +kernel
theorem dL_isBook_256 : decode cL_isBook 256 = .ok (.iinc 6 1, 3) := by decide +kernel
theorem dL_isBook_259 : decode cL_isBook 259 = .ok (.goto (-21), 3) := by decide +kernel
theorem dL_isBook_262 : decode cL_isBook 262 = .ok (.iload 5, 2) := by decide +kernel
theorem dL_isBook_264 : decode cL_isBook 264 = .ok (.ifCond .eq 23, 3) := by decide +kernel
theorem dL_isBook_267 : decode cL_isBook 267 = .ok (.aload_n 0, 1) := by decide +kernel
theorem dL_isBook_268 : decode cL_isBook 268 = .ok (.invokevirtual 120, 3) := by decide +kernel
theorem dL_isBook_271 : decode cL_isBook 271 = .ok (.iload_n 3, 1) := by decide +kernel
theorem dL_isBook_272 : decode cL_isBook 272 = .ok (.if_icmp .ne 15, 3) := by decide +kernel
theorem dL_isBook_275 : decode cL_isBook 275 = .ok (.iload 4, 2) := by decide +kernel
theorem dL_isBook_277 : decode cL_isBook 277 = .ok (.aload_n 1, 1) := by decide +kernel
theorem dL_isBook_278 : decode cL_isBook 278 = .ok (.iconst 0, 1) := by decide +kernel
theorem dL_isBook_279 : decode cL_isBook 279 = .ok (.iaload, 1) := by decide +kernel
theorem dL_isBook_280 : decode cL_isBook 280 = .ok (.if_icmp .ne 7, 3) := by decide +kernel
theorem dL_isBook_283 : decode cL_isBook 283 = .ok (.iconst 1, 1) := by decide +kernel
theorem dL_isBook_284 : decode cL_isBook 284 = .ok (.goto 4, 3) := by decide +kernel
theorem dL_isBook_287 : decode cL_isBook 287 = .ok (.iconst 0, 1) := by decide +kernel
theorem dL_isBook_288 : decode cL_isBook 288 = .ok (.ireturn, 1) := by decide +kernel
theorem dL_hands_0 : decode cL_hands 0 = .ok (.aload_n 0, 1) := by decide +kernel
theorem dL_hands_1 : decode cL_hands 1 = .ok (.iload_n 2, 1) := by decide +kernel
theorem dL_hands_2 : decode cL_hands 2 = .ok (.invokevirtual 62, 3) := by decide +kernel
theorem dL_hands_5 : decode cL_hands 5 = .ok (.istore 7, 2) := by decide +kernel
theorem dL_hands_7 : decode cL_hands 7 = .ok (.aload_n 0, 1) := by decide +kernel
theorem dL_hands_8 : decode cL_hands 8 = .ok (.iload_n 2, 1) := by decide +kernel
theorem dL_hands_9 : decode cL_hands 9 = .ok (.invokevirtual 71, 3) := by decide +kernel
theorem dL_hands_12 : decode cL_hands 12 = .ok (.istore 8, 2) := by decide +kernel
theorem dL_hands_14 : decode cL_hands 14 = .ok (.iload_n 1, 1) := by decide +kernel
theorem dL_hands_15 : decode cL_hands 15 = .ok (.ifCond .ne 138, 3) := by decide +kernel
theorem dL_hands_18 : decode cL_hands 18 = .ok (.aload_n 0, 1) := by decide +kernel
theorem dL_hands_19 : decode cL_hands 19 = .ok (.aload 6, 2) := by decide +kernel
theorem dL_hands_21 : decode cL_hands 21 = .ok (.iload_n 2, 1) := by decide +kernel
theorem dL_hands_22 : decode cL_hands 22 = .ok (.invokestatic 123, 3) := by decide +kernel
theorem dL_hands_25 : decode cL_hands 25 = .ok (.ifCond .eq 16, 3) := by decide +kernel
theorem dL_hands_28 : decode cL_hands 28 = .ok (.aload_n 0, 1) := by decide +kernel
theorem dL_hands_29 : decode cL_hands 29 = .ok (.iload_n 2, 1) := by decide +kernel
theorem dL_hands_30 : decode cL_hands 30 = .ok (.invokevirtual 65, 3) := by decide +kernel
theorem dL_hands_33 : decode cL_hands 33 = .ok (.iconst (-1), 1) := by decide +kernel
theorem dL_hands_34 : decode cL_hands 34 = .ok (.if_icmp .ne 7, 3) := by decide +kernel
theorem dL_hands_37 : decode cL_hands 37 = .ok (.iconst 1, 1) := by decide +kernel
theorem dL_hands_38 : decode cL_hands 38 = .ok (.goto 4, 3) := by decide +kernel
theorem dL_hands_41 : decode cL_hands 41 = .ok (.iconst 0, 1) := by decide +kernel
theorem dL_hands_42 : decode cL_hands 42 = .ok (.istore 9, 2) := by decide +kernel
theorem dL_hands_44 : decode cL_hands 44 = .ok (.aload_n 0, 1) := by decide +kernel
theorem dL_hands_45 : decode cL_hands 45 = .ok (.iconst 0, 1) := by decide +kernel
theorem dL_hands_46 : decode cL_hands 46 = .ok (.iload_n 2, 1) := by decide +kernel
theorem dL_hands_47 : decode cL_hands 47 = .ok (.iload_n 3, 1) := by decide +kernel
theorem dL_hands_48 : decode cL_hands 48 = .ok (.iconst 0, 1) := by decide +kernel
theorem dL_hands_49 : decode cL_hands 49 = .ok (.invokestatic 127, 3) := by decide +kernel
theorem dL_hands_52 : decode cL_hands 52 = .ok (.istore 10, 2) := by decide +kernel
theorem dL_hands_54 : decode cL_hands 54 = .ok (.iload_n 3, 1) := by decide +kernel
theorem dL_hands_55 : decode cL_hands 55 = .ok (.iload 7, 2) := by decide +kernel
theorem dL_hands_57 : decode cL_hands 57 = .ok (.if_icmp .ne 30, 3) := by decide +kernel
theorem dL_hands_60 : decode cL_hands 60 = .ok (.iload 10, 2) := by decide +kernel
theorem dL_hands_62 : decode cL_hands 62 = .ok (.bipush (-9), 2) := by decide +kernel
theorem dL_hands_64 : decode cL_hands 64 = .ok (.if_icmp .ne 19, 3) := by decide +kernel
theorem dL_hands_67 : decode cL_hands 67 = .ok (.aload_n 0, 1) := by decide +kernel
theorem dL_hands_68 : decode cL_hands 68 = .ok (.aload 4, 2) := by decide +kernel
theorem dL_hands_70 : decode cL_hands 70 = .ok (.aload 5, 2) := by decide +kernel
theorem dL_hands_72 : decode cL_hands 72 = .ok (.lconst 0, 1) := by decide +kernel
theorem dL_hands_73 : decode cL_hands 73 = .ok (.invokestatic 131, 3) := by decide +kernel
theorem dL_hands_76 : decode cL_hands 76 = .ok (.ifCond .eq 7, 3) := by decide +kernel
theorem dL_hands_79 : decode cL_hands 79 = .ok (.iconst 1, 1) := by decide +kernel
theorem dL_hands_80 : decode cL_hands 80 = .ok (.goto 72, 3) := by decide +kernel
theorem dL_hands_83 : decode cL_hands 83 = .ok (.iconst 0, 1) := by decide +kernel
theorem dL_hands_84 : decode cL_hands 84 = .ok (.goto 68, 3) := by decide +kernel
theorem dL_hands_87 : decode cL_hands 87 = .ok (.iload 10, 2) := by decide +kernel
theorem dL_hands_89 : decode cL_hands 89 = .ok (.iload 9, 2) := by decide +kernel
theorem dL_hands_91 : decode cL_hands 91 = .ok (.ifCond .eq 8, 3) := by decide +kernel
theorem dL_hands_94 : decode cL_hands 94 = .ok (.iload 7, 2) := by decide +kernel
theorem dL_hands_96 : decode cL_hands 96 = .ok (.goto 5, 3) := by decide +kernel
theorem dL_hands_99 : decode cL_hands 99 = .ok (.bipush (-8), 2) := by decide +kernel
theorem dL_hands_101 : decode cL_hands 101 = .ok (.if_icmp .ne 50, 3) := by decide +kernel
theorem dL_hands_104 : decode cL_hands 104 = .ok (.aload_n 0, 1) := by decide +kernel
theorem dL_hands_105 : decode cL_hands 105 = .ok (.iload_n 2, 1) := by decide +kernel
theorem dL_hands_106 : decode cL_hands 106 = .ok (.invokevirtual 71, 3) := by decide +kernel
theorem dL_hands_109 : decode cL_hands 109 = .ok (.iload 9, 2) := by decide +kernel
theorem dL_hands_111 : decode cL_hands 111 = .ok (.ifCond .eq 7, 3) := by decide +kernel
theorem dL_hands_114 : decode cL_hands 114 = .ok (.iload_n 3, 1) := by decide +kernel
theorem dL_hands_115 : decode cL_hands 115 = .ok (.goto 5, 3) := by decide +kernel
theorem dL_hands_118 : decode cL_hands 118 = .ok (.iload 8, 2) := by decide +kernel
theorem dL_hands_120 : decode cL_hands 120 = .ok (.if_icmp .ne 31, 3) := by decide +kernel
theorem dL_hands_123 : decode cL_hands 123 = .ok (.aload_n 0, 1) := by decide +kernel
theorem dL_hands_124 : decode cL_hands 124 = .ok (.iload_n 2, 1) := by decide +kernel
theorem dL_hands_125 : decode cL_hands 125 = .ok (.invokevirtual 62, 3) := by decide +kernel
theorem dL_hands_128 : decode cL_hands 128 = .ok (.iload 7, 2) := by decide +kernel
theorem dL_hands_130 : decode cL_hands 130 = .ok (.if_icmp .ne 21, 3) := by decide +kernel
theorem dL_hands_133 : decode cL_hands 133 = .ok (.aload_n 0, 1) := by decide +kernel
theorem dL_hands_134 : decode cL_hands 134 = .ok (.aload 4, 2) := by decide +kernel
theorem dL_hands_136 : decode cL_hands 136 = .ok (.aload 5, 2) := by decide +kernel
theorem dL_hands_138 : decode cL_hands 138 = .ok (.lconst 1, 1) := by decide +kernel
theorem dL_hands_139 : decode cL_hands 139 = .ok (.iload_n 2, 1) := by decide +kernel
theorem dL_hands_140 : decode cL_hands 140 = .ok (.lshl, 1) := by decide +kernel
theorem dL_hands_141 : decode cL_hands 141 = .ok (.invokestatic 131, 3) := by decide +kernel
theorem dL_hands_144 : decode cL_hands 144 = .ok (.ifCond .eq 7, 3) := by decide +kernel
theorem dL_hands_147 : decode cL_hands 147 = .ok (.iconst 1, 1) := by decide +kernel
theorem dL_hands_148 : decode cL_hands 148 = .ok (.goto 4, 3) := by decide +kernel
theorem dL_hands_151 : decode cL_hands 151 = .ok (.iconst 0, 1) := by decide +kernel
theorem dL_hands_152 : decode cL_hands 152 = .ok (.ireturn, 1) := by decide +kernel
theorem dL_hands_153 : decode cL_hands 153 = .ok (.iload 8, 2) := by decide +kernel
theorem dL_hands_155 : decode cL_hands 155 = .ok (.ifCond .lt 7, 3) := by decide +kernel
theorem dL_hands_158 : decode cL_hands 158 = .ok (.iconst 1, 1) := by decide +kernel
theorem dL_hands_159 : decode cL_hands 159 = .ok (.goto 4, 3) := by decide +kernel
theorem dL_hands_162 : decode cL_hands 162 = .ok (.iconst 0, 1) := by decide +kernel
theorem dL_hands_163 : decode cL_hands 163 = .ok (.istore 9, 2) := by decide +kernel
theorem dL_hands_165 : decode cL_hands 165 = .ok (.iload_n 3, 1) := by decide +kernel
theorem dL_hands_166 : decode cL_hands 166 = .ok (.iconst 2, 1) := by decide +kernel
theorem dL_hands_167 : decode cL_hands 167 = .ok (.irem, 1) := by decide +kernel
theorem dL_hands_168 : decode cL_hands 168 = .ok (.istore 10, 2) := by decide +kernel
theorem dL_hands_170 : decode cL_hands 170 = .ok (.aload_n 0, 1) := by decide +kernel
theorem dL_hands_171 : decode cL_hands 171 = .ok (.iconst 1, 1) := by decide +kernel
theorem dL_hands_172 : decode cL_hands 172 = .ok (.iload_n 2, 1) := by decide +kernel
theorem dL_hands_173 : decode cL_hands 173 = .ok (.iload 10, 2) := by decide +kernel
theorem dL_hands_175 : decode cL_hands 175 = .ok (.iconst 0, 1) := by decide +kernel
theorem dL_hands_176 : decode cL_hands 176 = .ok (.invokestatic 127, 3) := by decide +kernel
theorem dL_hands_179 : decode cL_hands 179 = .ok (.istore 11, 2) := by decide +kernel
theorem dL_hands_181 : decode cL_hands 181 = .ok (.aload 4, 2) := by decide +kernel
theorem dL_hands_183 : decode cL_hands 183 = .ok (.iconst 1, 1) := by decide +kernel
theorem dL_hands_184 : decode cL_hands 184 = .ok (.dup2, 1) := by decide +kernel
theorem dL_hands_185 : decode cL_hands 185 = .ok (.iaload, 1) := by decide +kernel
theorem dL_hands_186 : decode cL_hands 186 = .ok (.iload 9, 2) := by decide +kernel
theorem dL_hands_188 : decode cL_hands 188 = .ok (.ifCond .eq 13, 3) := by decide +kernel
theorem dL_hands_191 : decode cL_hands 191 = .ok (.iload 10, 2) := by decide +kernel
theorem dL_hands_193 : decode cL_hands 193 = .ok (.iconst 1, 1) := by decide +kernel
theorem dL_hands_194 : decode cL_hands 194 = .ok (.if_icmp .ne 7, 3) := by decide +kernel
theorem dL_hands_197 : decode cL_hands 197 = .ok (.iconst 1, 1) := by decide +kernel
theorem dL_hands_198 : decode cL_hands 198 = .ok (.goto 4, 3) := by decide +kernel
theorem dL_hands_201 : decode cL_hands 201 = .ok (.iconst 0, 1) := by decide +kernel
theorem dL_hands_202 : decode cL_hands 202 = .ok (.iadd, 1) := by decide +kernel
theorem dL_hands_203 : decode cL_hands 203 = .ok (.iastore, 1) := by decide +kernel
theorem dL_hands_204 : decode cL_hands 204 = .ok (.iload 9, 2) := by decide +kernel
theorem dL_hands_206 : decode cL_hands 206 = .ok (.ifCond .eq 14, 3) := by decide +kernel
theorem dL_hands_209 : decode cL_hands 209 = .ok (.iload 10, 2) := by decide +kernel
theorem dL_hands_211 : decode cL_hands 211 = .ok (.iconst 1, 1) := by decide +kernel
theorem dL_hands_212 : decode cL_hands 212 = .ok (.if_icmp .ne 8, 3) := by decide +kernel
theorem dL_hands_215 : decode cL_hands 215 = .ok (.iload 8, 2) := by decide +kernel
theorem dL_hands_217 : decode cL_hands 217 = .ok (.goto 5, 3) := by decide +kernel
theorem dL_hands_220 : decode cL_hands 220 = .ok (.iload 7, 2) := by decide +kernel
theorem dL_hands_222 : decode cL_hands 222 = .ok (.istore 12, 2) := by decide +kernel
theorem dL_hands_224 : decode cL_hands 224 = .ok (.iload 11, 2) := by decide +kernel
theorem dL_hands_226 : decode cL_hands 226 = .ok (.iload 9, 2) := by decide +kernel
theorem dL_hands_228 : decode cL_hands 228 = .ok (.ifCond .eq 8, 3) := by decide +kernel
theorem dL_hands_231 : decode cL_hands 231 = .ok (.iload 12, 2) := by decide +kernel
theorem dL_hands_233 : decode cL_hands 233 = .ok (.goto 5, 3) := by decide +kernel
theorem dL_hands_236 : decode cL_hands 236 = .ok (.bipush (-8), 2) := by decide +kernel
theorem dL_hands_238 : decode cL_hands 238 = .ok (.if_icmp .ne 40, 3) := by decide +kernel
theorem dL_hands_241 : decode cL_hands 241 = .ok (.aload_n 0, 1) := by decide +kernel
theorem dL_hands_242 : decode cL_hands 242 = .ok (.iload_n 2, 1) := by decide +kernel
theorem dL_hands_243 : decode cL_hands 243 = .ok (.invokevirtual 62, 3) := by decide +kernel
theorem dL_hands_246 : decode cL_hands 246 = .ok (.iload 12, 2) := by decide +kernel
theorem dL_hands_248 : decode cL_hands 248 = .ok (.if_icmp .ne 30, 3) := by decide +kernel
theorem dL_hands_251 : decode cL_hands 251 = .ok (.aload_n 0, 1) := by decide +kernel
theorem dL_hands_252 : decode cL_hands 252 = .ok (.iload_n 2, 1) := by decide +kernel
theorem dL_hands_253 : decode cL_hands 253 = .ok (.invokevirtual 71, 3) := by decide +kernel
theorem dL_hands_256 : decode cL_hands 256 = .ok (.iconst (-1), 1) := by decide +kernel
theorem dL_hands_257 : decode cL_hands 257 = .ok (.if_icmp .ne 21, 3) := by decide +kernel
theorem dL_hands_260 : decode cL_hands 260 = .ok (.aload_n 0, 1) := by decide +kernel
theorem dL_hands_261 : decode cL_hands 261 = .ok (.aload 4, 2) := by decide +kernel
theorem dL_hands_263 : decode cL_hands 263 = .ok (.aload 5, 2) := by decide +kernel
theorem dL_hands_265 : decode cL_hands 265 = .ok (.lconst 1, 1) := by decide +kernel
theorem dL_hands_266 : decode cL_hands 266 = .ok (.iload_n 2, 1) := by decide +kernel
theorem dL_hands_267 : decode cL_hands 267 = .ok (.lshl, 1) := by decide +kernel
theorem dL_hands_268 : decode cL_hands 268 = .ok (.invokestatic 131, 3) := by decide +kernel
theorem dL_hands_271 : decode cL_hands 271 = .ok (.ifCond .eq 7, 3) := by decide +kernel
theorem dL_hands_274 : decode cL_hands 274 = .ok (.iconst 1, 1) := by decide +kernel
theorem dL_hands_275 : decode cL_hands 275 = .ok (.goto 4, 3) := by decide +kernel
theorem dL_hands_278 : decode cL_hands 278 = .ok (.iconst 0, 1) := by decide +kernel
theorem dL_hands_279 : decode cL_hands 279 = .ok (.ireturn, 1) := by decide +kernel
theorem dL_packs_0 : decode cL_packs 0 = .ok (.aload_n 0, 1) := by decide +kernel
theorem dL_packs_1 : decode cL_packs 1 = .ok (.iload_n 2, 1) := by decide +kernel
theorem dL_packs_2 : decode cL_packs 2 = .ok (.invokevirtual 65, 3) := by decide +kernel
theorem dL_packs_5 : decode cL_packs 5 = .ok (.istore 7, 2) := by decide +kernel
theorem dL_packs_7 : decode cL_packs 7 = .ok (.iload_n 1, 1) := by decide +kernel
theorem dL_packs_8 : decode cL_packs 8 = .ok (.iconst 2, 1) := by decide +kernel
theorem dL_packs_9 : decode cL_packs 9 = .ok (.if_icmp .ne 121, 3) := by decide +kernel
theorem dL_packs_12 : decode cL_packs 12 = .ok (.aload_n 0, 1) := by decide +kernel
theorem dL_packs_13 : decode cL_packs 13 = .ok (.aload 6, 2) := by decide +kernel
theorem dL_packs_15 : decode cL_packs 15 = .ok (.iload_n 2, 1) := by decide +kernel
theorem dL_packs_16 : decode cL_packs 16 = .ok (.invokestatic 123, 3) := by decide +kernel
theorem dL_packs_19 : decode cL_packs 19 = .ok (.ifCond .eq 35, 3) := by decide +kernel
theorem dL_packs_22 : decode cL_packs 22 = .ok (.iload 7, 2) := by decide +kernel
theorem dL_packs_24 : decode cL_packs 24 = .ok (.iconst (-1), 1) := by decide +kernel
theorem dL_packs_25 : decode cL_packs 25 = .ok (.if_icmp .ne 29, 3) := by decide +kernel
theorem dL_packs_28 : decode cL_packs 28 = .ok (.aload_n 0, 1) := by decide +kernel
theorem dL_packs_29 : decode cL_packs 29 = .ok (.iload_n 3, 1) := by decide +kernel
theorem dL_packs_30 : decode cL_packs 30 = .ok (.invokevirtual 87, 3) := by decide +kernel
theorem dL_packs_33 : decode cL_packs 33 = .ok (.iconst (-1), 1) := by decide +kernel
theorem dL_packs_34 : decode cL_packs 34 = .ok (.if_icmp .ne 20, 3) := by decide +kernel
theorem dL_packs_37 : decode cL_packs 37 = .ok (.aload_n 0, 1) := by decide +kernel
theorem dL_packs_38 : decode cL_packs 38 = .ok (.iload_n 3, 1) := by decide +kernel
theorem dL_packs_39 : decode cL_packs 39 = .ok (.invokevirtual 114, 3) := by decide +kernel
theorem dL_packs_42 : decode cL_packs 42 = .ok (.aload_n 0, 1) := by decide +kernel
theorem dL_packs_43 : decode cL_packs 43 = .ok (.iload_n 2, 1) := by decide +kernel
theorem dL_packs_44 : decode cL_packs 44 = .ok (.invokevirtual 62, 3) := by decide +kernel
theorem dL_packs_47 : decode cL_packs 47 = .ok (.if_icmp .ne 7, 3) := by decide +kernel
theorem dL_packs_50 : decode cL_packs 50 = .ok (.iconst 1, 1) := by decide +kernel
theorem dL_packs_51 : decode cL_packs 51 = .ok (.goto 4, 3) := by decide +kernel
theorem dL_packs_54 : decode cL_packs 54 = .ok (.iconst 0, 1) := by decide +kernel
theorem dL_packs_55 : decode cL_packs 55 = .ok (.istore 8, 2) := by decide +kernel
theorem dL_packs_57 : decode cL_packs 57 = .ok (.aload_n 0, 1) := by decide +kernel
theorem dL_packs_58 : decode cL_packs 58 = .ok (.aload 4, 2) := by decide +kernel
theorem dL_packs_60 : decode cL_packs 60 = .ok (.iload_n 3, 1) := by decide +kernel
theorem dL_packs_61 : decode cL_packs 61 = .ok (.invokestatic 135, 3) := by decide +kernel
theorem dL_packs_64 : decode cL_packs 64 = .ok (.istore 9, 2) := by decide +kernel
theorem dL_packs_66 : decode cL_packs 66 = .ok (.aload_n 0, 1) := by decide +kernel
theorem dL_packs_67 : decode cL_packs 67 = .ok (.iconst 2, 1) := by decide +kernel
theorem dL_packs_68 : decode cL_packs 68 = .ok (.iload_n 2, 1) := by decide +kernel
theorem dL_packs_69 : decode cL_packs 69 = .ok (.iload_n 3, 1) := by decide +kernel
theorem dL_packs_70 : decode cL_packs 70 = .ok (.iconst 0, 1) := by decide +kernel
theorem dL_packs_71 : decode cL_packs 71 = .ok (.invokestatic 127, 3) := by decide +kernel
theorem dL_packs_74 : decode cL_packs 74 = .ok (.iload 8, 2) := by decide +kernel
theorem dL_packs_76 : decode cL_packs 76 = .ok (.ifCond .eq 10, 3) := by decide +kernel
theorem dL_packs_79 : decode cL_packs 79 = .ok (.iload 9, 2) := by decide +kernel
theorem dL_packs_81 : decode cL_packs 81 = .ok (.iconst 1, 1) := by decide +kernel
theorem dL_packs_82 : decode cL_packs 82 = .ok (.iadd, 1) := by decide +kernel
theorem dL_packs_83 : decode cL_packs 83 = .ok (.goto 5, 3) := by decide +kernel
theorem dL_packs_86 : decode cL_packs 86 = .ok (.bipush (-8), 2) := by decide +kernel
theorem dL_packs_88 : decode cL_packs 88 = .ok (.if_icmp .ne 40, 3) := by decide +kernel
theorem dL_packs_91 : decode cL_packs 91 = .ok (.aload_n 0, 1) := by decide +kernel
theorem dL_packs_92 : decode cL_packs 92 = .ok (.iload_n 2, 1) := by decide +kernel
theorem dL_packs_93 : decode cL_packs 93 = .ok (.invokevirtual 65, 3) := by decide +kernel
theorem dL_packs_96 : decode cL_packs 96 = .ok (.iload 8, 2) := by decide +kernel
theorem dL_packs_98 : decode cL_packs 98 = .ok (.ifCond .eq 7, 3) := by decide +kernel
theorem dL_packs_101 : decode cL_packs 101 = .ok (.iload_n 3, 1) := by decide +kernel
theorem dL_packs_102 : decode cL_packs 102 = .ok (.goto 5, 3) := by decide +kernel
theorem dL_packs_105 : decode cL_packs 105 = .ok (.iload 7, 2) := by decide +kernel
theorem dL_packs_107 : decode cL_packs 107 = .ok (.if_icmp .ne 21, 3) := by decide +kernel
theorem dL_packs_110 : decode cL_packs 110 = .ok (.aload_n 0, 1) := by decide +kernel
theorem dL_packs_111 : decode cL_packs 111 = .ok (.aload 4, 2) := by decide +kernel
theorem dL_packs_113 : decode cL_packs 113 = .ok (.aload 5, 2) := by decide +kernel
theorem dL_packs_115 : decode cL_packs 115 = .ok (.lconst 1, 1) := by decide +kernel
theorem dL_packs_116 : decode cL_packs 116 = .ok (.iload_n 2, 1) := by decide +kernel
theorem dL_packs_117 : decode cL_packs 117 = .ok (.lshl, 1) := by decide +kernel
theorem dL_packs_118 : decode cL_packs 118 = .ok (.invokestatic 131, 3) := by decide +kernel
theorem dL_packs_121 : decode cL_packs 121 = .ok (.ifCond .eq 7, 3) := by decide +kernel
theorem dL_packs_124 : decode cL_packs 124 = .ok (.iconst 1, 1) := by decide +kernel
theorem dL_packs_125 : decode cL_packs 125 = .ok (.goto 4, 3) := by decide +kernel
theorem dL_packs_128 : decode cL_packs 128 = .ok (.iconst 0, 1) := by decide +kernel
theorem dL_packs_129 : decode cL_packs 129 = .ok (.ireturn, 1) := by decide +kernel
theorem dL_packs_130 : decode cL_packs 130 = .ok (.iload 7, 2) := by decide +kernel
theorem dL_packs_132 : decode cL_packs 132 = .ok (.ifCond .lt 24, 3) := by decide +kernel
theorem dL_packs_135 : decode cL_packs 135 = .ok (.aload 6, 2) := by decide +kernel
theorem dL_packs_137 : decode cL_packs 137 = .ok (.iload_n 2, 1) := by decide +kernel
theorem dL_packs_138 : decode cL_packs 138 = .ok (.invokestatic 90, 3) := by decide +kernel
theorem dL_packs_141 : decode cL_packs 141 = .ok (.ifCond .ne 15, 3) := by decide +kernel
theorem dL_packs_144 : decode cL_packs 144 = .ok (.aload_n 0, 1) := by decide +kernel
theorem dL_packs_145 : decode cL_packs 145 = .ok (.iload_n 2, 1) := by decide +kernel
theorem dL_packs_146 : decode cL_packs 146 = .ok (.invokestatic 94, 3) := by decide +kernel
theorem dL_packs_149 : decode cL_packs 149 = .ok (.ifCond .ne 7, 3) := by decide +kernel
theorem dL_packs_152 : decode cL_packs 152 = .ok (.iconst 1, 1) := by decide +kernel
theorem dL_packs_153 : decode cL_packs 153 = .ok (.goto 4, 3) := by decide +kernel
theorem dL_packs_156 : decode cL_packs 156 = .ok (.iconst 0, 1) := by decide +kernel
theorem dL_packs_157 : decode cL_packs 157 = .ok (.istore 8, 2) := by decide +kernel
theorem dL_packs_159 : decode cL_packs 159 = .ok (.aload_n 0, 1) := by decide +kernel
theorem dL_packs_160 : decode cL_packs 160 = .ok (.iconst 3, 1) := by decide +kernel
theorem dL_packs_161 : decode cL_packs 161 = .ok (.iload_n 2, 1) := by decide +kernel
theorem dL_packs_162 : decode cL_packs 162 = .ok (.iconst 0, 1) := by decide +kernel
theorem dL_packs_163 : decode cL_packs 163 = .ok (.iconst 0, 1) := by decide +kernel
theorem dL_packs_164 : decode cL_packs 164 = .ok (.invokestatic 127, 3) := by decide +kernel
theorem dL_packs_167 : decode cL_packs 167 = .ok (.iload 8, 2) := by decide +kernel
theorem dL_packs_169 : decode cL_packs 169 = .ok (.ifCond .eq 8, 3) := by decide +kernel
theorem dL_packs_172 : decode cL_packs 172 = .ok (.iload 7, 2) := by decide +kernel
theorem dL_packs_174 : decode cL_packs 174 = .ok (.goto 5, 3) := by decide +kernel
theorem dL_packs_177 : decode cL_packs 177 = .ok (.bipush (-8), 2) := by decide +kernel
theorem dL_packs_179 : decode cL_packs 179 = .ok (.if_icmp .ne 40, 3) := by decide +kernel
theorem dL_packs_182 : decode cL_packs 182 = .ok (.aload_n 0, 1) := by decide +kernel
theorem dL_packs_183 : decode cL_packs 183 = .ok (.iload_n 2, 1) := by decide +kernel
theorem dL_packs_184 : decode cL_packs 184 = .ok (.invokevirtual 65, 3) := by decide +kernel
theorem dL_packs_187 : decode cL_packs 187 = .ok (.iload 8, 2) := by decide +kernel
theorem dL_packs_189 : decode cL_packs 189 = .ok (.ifCond .eq 7, 3) := by decide +kernel
theorem dL_packs_192 : decode cL_packs 192 = .ok (.iconst (-1), 1) := by decide +kernel
theorem dL_packs_193 : decode cL_packs 193 = .ok (.goto 5, 3) := by decide +kernel
theorem dL_packs_196 : decode cL_packs 196 = .ok (.iload 7, 2) := by decide +kernel
theorem dL_packs_198 : decode cL_packs 198 = .ok (.if_icmp .ne 21, 3) := by decide +kernel
theorem dL_packs_201 : decode cL_packs 201 = .ok (.aload_n 0, 1) := by decide +kernel
theorem dL_packs_202 : decode cL_packs 202 = .ok (.aload 4, 2) := by decide +kernel
theorem dL_packs_204 : decode cL_packs 204 = .ok (.aload 5, 2) := by decide +kernel
theorem dL_packs_206 : decode cL_packs 206 = .ok (.lconst 1, 1) := by decide +kernel
theorem dL_packs_207 : decode cL_packs 207 = .ok (.iload_n 2, 1) := by decide +kernel
theorem dL_packs_208 : decode cL_packs 208 = .ok (.lshl, 1) := by decide +kernel
theorem dL_packs_209 : decode cL_packs 209 = .ok (.invokestatic 131, 3) := by decide +kernel
theorem dL_packs_212 : decode cL_packs 212 = .ok (.ifCond .eq 7, 3) := by decide +kernel
theorem dL_packs_215 : decode cL_packs 215 = .ok (.iconst 1, 1) := by decide +kernel
theorem dL_packs_216 : decode cL_packs 216 = .ok (.goto 4, 3) := by decide +kernel
theorem dL_packs_219 : decode cL_packs 219 = .ok (.iconst 0, 1) := by decide +kernel
theorem dL_packs_220 : decode cL_packs 220 = .ok (.ireturn, 1) := by decide +kernel
theorem dL_works_0 : decode cL_works 0 = .ok (.aload_n 0, 1) := by decide +kernel
theorem dL_works_1 : decode cL_works 1 = .ok (.iload_n 2, 1) := by decide +kernel
theorem dL_works_2 : decode cL_works 2 = .ok (.invokevirtual 68, 3) := by decide +kernel
theorem dL_works_5 : decode cL_works 5 = .ok (.istore 10, 2) := by decide +kernel
theorem dL_works_7 : decode cL_works 7 = .ok (.aload_n 0, 1) := by decide +kernel
theorem dL_works_8 : decode cL_works 8 = .ok (.iload_n 2, 1) := by decide +kernel
theorem dL_works_9 : decode cL_works 9 = .ok (.invokevirtual 62, 3) := by decide +kernel
theorem dL_works_12 : decode cL_works 12 = .ok (.istore 11, 2) := by decide +kernel
theorem dL_works_14 : decode cL_works 14 = .ok (.aload_n 0, 1) := by decide +kernel
theorem dL_works_15 : decode cL_works 15 = .ok (.aload 8, 2) := by decide +kernel
theorem dL_works_17 : decode cL_works 17 = .ok (.iload_n 2, 1) := by decide +kernel
theorem dL_works_18 : decode cL_works 18 = .ok (.invokestatic 123, 3) := by decide +kernel
theorem dL_works_21 : decode cL_works 21 = .ok (.istore 12, 2) := by decide +kernel
theorem dL_works_23 : decode cL_works 23 = .ok (.aload_n 0, 1) := by decide +kernel
theorem dL_works_24 : decode cL_works 24 = .ok (.iload_n 2, 1) := by decide +kernel
theorem dL_works_25 : decode cL_works 25 = .ok (.invokevirtual 74, 3) := by decide +kernel
theorem dL_works_28 : decode cL_works 28 = .ok (.istore 13, 2) := by decide +kernel
theorem dL_works_30 : decode cL_works 30 = .ok (.iload_n 1, 1) := by decide +kernel
theorem dL_works_31 : decode cL_works 31 = .ok (.iconst 4, 1) := by decide +kernel
theorem dL_works_32 : decode cL_works 32 = .ok (.if_icmp .ne 17, 3) := by decide +kernel
theorem dL_works_35 : decode cL_works 35 = .ok (.aload_n 0, 1) := by decide +kernel
theorem dL_works_36 : decode cL_works 36 = .ok (.iconst 4, 1) := by decide +kernel
theorem dL_works_37 : decode cL_works 37 = .ok (.iload_n 2, 1) := by decide +kernel
theorem dL_works_38 : decode cL_works 38 = .ok (.iload_n 3, 1) := by decide +kernel
theorem dL_works_39 : decode cL_works 39 = .ok (.iconst 3, 1) := by decide +kernel
theorem dL_works_40 : decode cL_works 40 = .ok (.irem, 1) := by decide +kernel
theorem dL_works_41 : decode cL_works 41 = .ok (.iload 4, 2) := by decide +kernel
theorem dL_works_43 : decode cL_works 43 = .ok (.invokestatic 127, 3) := by decide +kernel
theorem dL_works_46 : decode cL_works 46 = .ok (.goto 32, 3) := by decide +kernel
theorem dL_works_49 : decode cL_works 49 = .ok (.iload_n 1, 1) := by decide +kernel
theorem dL_works_50 : decode cL_works 50 = .ok (.iconst 5, 1) := by decide +kernel
theorem dL_works_51 : decode cL_works 51 = .ok (.if_icmp .ne 15, 3) := by decide +kernel
theorem dL_works_54 : decode cL_works 54 = .ok (.aload_n 0, 1) := by decide +kernel
theorem dL_works_55 : decode cL_works 55 = .ok (.iconst 5, 1) := by decide +kernel
theorem dL_works_56 : decode cL_works 56 = .ok (.iload_n 2, 1) := by decide +kernel
theorem dL_works_57 : decode cL_works 57 = .ok (.iload 4, 2) := by decide +kernel
theorem dL_works_59 : decode cL_works 59 = .ok (.iconst 0, 1) := by decide +kernel
theorem dL_works_60 : decode cL_works 60 = .ok (.invokestatic 127, 3) := by decide +kernel
theorem dL_works_63 : decode cL_works 63 = .ok (.goto 15, 3) := by decide +kernel
theorem dL_works_66 : decode cL_works 66 = .ok (.aload_n 0, 1) := by decide +kernel
theorem dL_works_67 : decode cL_works 67 = .ok (.bipush 6, 2) := by decide +kernel
theorem dL_works_69 : decode cL_works 69 = .ok (.iload_n 2, 1) := by decide +kernel
theorem dL_works_70 : decode cL_works 70 = .ok (.iload 4, 2) := by decide +kernel
theorem dL_works_72 : decode cL_works 72 = .ok (.iload_n 3, 1) := by decide +kernel
theorem dL_works_73 : decode cL_works 73 = .ok (.iconst 3, 1) := by decide +kernel
theorem dL_works_74 : decode cL_works 74 = .ok (.irem, 1) := by decide +kernel
theorem dL_works_75 : decode cL_works 75 = .ok (.invokestatic 127, 3) := by decide +kernel
theorem dL_works_78 : decode cL_works 78 = .ok (.istore 14, 2) := by decide +kernel
theorem dL_works_80 : decode cL_works 80 = .ok (.iload_n 1, 1) := by decide +kernel
theorem dL_works_81 : decode cL_works 81 = .ok (.bipush 6, 2) := by decide +kernel
theorem dL_works_83 : decode cL_works 83 = .ok (.if_icmp .ne 165, 3) := by decide +kernel
theorem dL_works_86 : decode cL_works 86 = .ok (.iload 10, 2) := by decide +kernel
theorem dL_works_88 : decode cL_works 88 = .ok (.iconst 1, 1) := by decide +kernel
theorem dL_works_89 : decode cL_works 89 = .ok (.if_icmp .ne 16, 3) := by decide +kernel
theorem dL_works_92 : decode cL_works 92 = .ok (.aload 9, 2) := by decide +kernel
theorem dL_works_94 : decode cL_works 94 = .ok (.iload_n 2, 1) := by decide +kernel
theorem dL_works_95 : decode cL_works 95 = .ok (.iaload, 1) := by decide +kernel
theorem dL_works_96 : decode cL_works 96 = .ok (.iload 4, 2) := by decide +kernel
theorem dL_works_98 : decode cL_works 98 = .ok (.if_icmp .ne 7, 3) := by decide +kernel
theorem dL_works_101 : decode cL_works 101 = .ok (.iconst 1, 1) := by decide +kernel
theorem dL_works_102 : decode cL_works 102 = .ok (.goto 4, 3) := by decide +kernel
theorem dL_works_105 : decode cL_works 105 = .ok (.iconst 0, 1) := by decide +kernel
theorem dL_works_106 : decode cL_works 106 = .ok (.istore 15, 2) := by decide +kernel
theorem dL_works_108 : decode cL_works 108 = .ok (.iload 12, 2) := by decide +kernel
theorem dL_works_110 : decode cL_works 110 = .ok (.ifCond .eq 13, 3) := by decide +kernel
theorem dL_works_113 : decode cL_works 113 = .ok (.iload 10, 2) := by decide +kernel
theorem dL_works_115 : decode cL_works 115 = .ok (.iconst 1, 1) := by decide +kernel
theorem dL_works_116 : decode cL_works 116 = .ok (.if_icmp .ne 7, 3) := by decide +kernel
theorem dL_works_119 : decode cL_works 119 = .ok (.iconst 1, 1) := by decide +kernel
theorem dL_works_120 : decode cL_works 120 = .ok (.goto 4, 3) := by decide +kernel
theorem dL_works_123 : decode cL_works 123 = .ok (.iconst 0, 1) := by decide +kernel
theorem dL_works_124 : decode cL_works 124 = .ok (.istore 16, 2) := by decide +kernel
theorem dL_works_126 : decode cL_works 126 = .ok (.iload_n 3, 1) := by decide +kernel
theorem dL_works_127 : decode cL_works 127 = .ok (.iconst 3, 1) := by decide +kernel
theorem dL_works_128 : decode cL_works 128 = .ok (.irem, 1) := by decide +kernel
theorem dL_works_129 : decode cL_works 129 = .ok (.ifCond .le 7, 3) := by decide +kernel
theorem dL_works_132 : decode cL_works 132 = .ok (.iconst 1, 1) := by decide +kernel
theorem dL_works_133 : decode cL_works 133 = .ok (.goto 4, 3) := by decide +kernel
theorem dL_works_136 : decode cL_works 136 = .ok (.iconst 2, 1) := by decide +kernel
theorem dL_works_137 : decode cL_works 137 = .ok (.istore 17, 2) := by decide +kernel
theorem dL_works_139 : decode cL_works 139 = .ok (.iload 14, 2) := by decide +kernel
theorem dL_works_141 : decode cL_works 141 = .ok (.iload 15, 2) := by decide +kernel
theorem dL_works_143 : decode cL_works 143 = .ok (.ifCond .eq 8, 3) := by decide +kernel
theorem dL_works_146 : decode cL_works 146 = .ok (.bipush (-9), 2) := by decide +kernel
theorem dL_works_148 : decode cL_works 148 = .ok (.goto 15, 3) := by decide +kernel
theorem dL_works_151 : decode cL_works 151 = .ok (.iload 16, 2) := by decide +kernel
theorem dL_works_153 : decode cL_works 153 = .ok (.ifCond .eq 8, 3) := by decide +kernel
theorem dL_works_156 : decode cL_works 156 = .ok (.iload 17, 2) := by decide +kernel
theorem dL_works_158 : decode cL_works 158 = .ok (.goto 5, 3) := by decide +kernel
theorem dL_works_161 : decode cL_works 161 = .ok (.bipush (-8), 2) := by decide +kernel
theorem dL_works_163 : decode cL_works 163 = .ok (.if_icmp .ne 83, 3) := by decide +kernel
theorem dL_works_166 : decode cL_works 166 = .ok (.iload 15, 2) := by decide +kernel
theorem dL_works_168 : decode cL_works 168 = .ok (.ifCond .ne 8, 3) := by decide +kernel
theorem dL_works_171 : decode cL_works 171 = .ok (.iload 16, 2) := by decide +kernel
theorem dL_works_173 : decode cL_works 173 = .ok (.ifCond .ne 26, 3) := by decide +kernel
theorem dL_works_176 : decode cL_works 176 = .ok (.aload_n 0, 1) := by decide +kernel
theorem dL_works_177 : decode cL_works 177 = .ok (.iload_n 2, 1) := by decide +kernel
theorem dL_works_178 : decode cL_works 178 = .ok (.invokevirtual 68, 3) := by decide +kernel
theorem dL_works_181 : decode cL_works 181 = .ok (.iload 10, 2) := by decide +kernel
theorem dL_works_183 : decode cL_works 183 = .ok (.if_icmp .ne 63, 3) := by decide +kernel
theorem dL_works_186 : decode cL_works 186 = .ok (.aload_n 0, 1) := by decide +kernel
theorem dL_works_187 : decode cL_works 187 = .ok (.iload_n 2, 1) := by decide +kernel
theorem dL_works_188 : decode cL_works 188 = .ok (.invokevirtual 74, 3) := by decide +kernel
theorem dL_works_191 : decode cL_works 191 = .ok (.iload 13, 2) := by decide +kernel
theorem dL_works_193 : decode cL_works 193 = .ok (.if_icmp .ne 53, 3) := by decide +kernel
theorem dL_works_196 : decode cL_works 196 = .ok (.goto 32, 3) := by decide +kernel
theorem dL_works_199 : decode cL_works 199 = .ok (.aload_n 0, 1) := by decide +kernel
theorem dL_works_200 : decode cL_works 200 = .ok (.iload_n 2, 1) := by decide +kernel
theorem dL_works_201 : decode cL_works 201 = .ok (.invokevirtual 68, 3) := by decide +kernel
theorem dL_works_204 : decode cL_works 204 = .ok (.iload 17, 2) := by decide +kernel
theorem dL_works_206 : decode cL_works 206 = .ok (.if_icmp .ne 40, 3) := by decide +kernel
theorem dL_works_209 : decode cL_works 209 = .ok (.aload_n 0, 1) := by decide +kernel
theorem dL_works_210 : decode cL_works 210 = .ok (.iload_n 2, 1) := by decide +kernel
theorem dL_works_211 : decode cL_works 211 = .ok (.invokevirtual 74, 3) := by decide +kernel
theorem dL_works_214 : decode cL_works 214 = .ok (.iload 17, 2) := by decide +kernel
theorem dL_works_216 : decode cL_works 216 = .ok (.iconst 1, 1) := by decide +kernel
theorem dL_works_217 : decode cL_works 217 = .ok (.if_icmp .ne 7, 3) := by decide +kernel
theorem dL_works_220 : decode cL_works 220 = .ok (.iconst 1, 1) := by decide +kernel
theorem dL_works_221 : decode cL_works 221 = .ok (.goto 4, 3) := by decide +kernel
theorem dL_works_224 : decode cL_works 224 = .ok (.iconst 0, 1) := by decide +kernel
theorem dL_works_225 : decode cL_works 225 = .ok (.if_icmp .ne 21, 3) := by decide +kernel
theorem dL_works_228 : decode cL_works 228 = .ok (.aload_n 0, 1) := by decide +kernel
theorem dL_works_229 : decode cL_works 229 = .ok (.aload 5, 2) := by decide +kernel
theorem dL_works_231 : decode cL_works 231 = .ok (.aload 6, 2) := by decide +kernel
theorem dL_works_233 : decode cL_works 233 = .ok (.lconst 1, 1) := by decide +kernel
theorem dL_works_234 : decode cL_works 234 = .ok (.iload_n 2, 1) := by decide +kernel
theorem dL_works_235 : decode cL_works 235 = .ok (.lshl, 1) := by decide +kernel
theorem dL_works_236 : decode cL_works 236 = .ok (.invokestatic 131, 3) := by decide +kernel
theorem dL_works_239 : decode cL_works 239 = .ok (.ifCond .eq 7, 3) := by decide +kernel
theorem dL_works_242 : decode cL_works 242 = .ok (.iconst 1, 1) := by decide +kernel
theorem dL_works_243 : decode cL_works 243 = .ok (.goto 4, 3) := by decide +kernel
theorem dL_works_246 : decode cL_works 246 = .ok (.iconst 0, 1) := by decide +kernel
theorem dL_works_247 : decode cL_works 247 = .ok (.ireturn, 1) := by decide +kernel
theorem dL_works_248 : decode cL_works 248 = .ok (.iload 4, 2) := by decide +kernel
theorem dL_works_250 : decode cL_works 250 = .ok (.iload 11, 2) := by decide +kernel
theorem dL_works_252 : decode cL_works 252 = .ok (.if_icmp .ne 28, 3) := by decide +kernel
theorem dL_works_255 : decode cL_works 255 = .ok (.iload 14, 2) := by decide +kernel
theorem dL_works_257 : decode cL_works 257 = .ok (.bipush (-9), 2) := by decide +kernel
theorem dL_works_259 : decode cL_works 259 = .ok (.if_icmp .ne 19, 3) := by decide +kernel
theorem dL_works_262 : decode cL_works 262 = .ok (.aload_n 0, 1) := by decide +kernel
theorem dL_works_263 : decode cL_works 263 = .ok (.aload 5, 2) := by decide +kernel
theorem dL_works_265 : decode cL_works 265 = .ok (.aload 6, 2) := by decide +kernel
theorem dL_works_267 : decode cL_works 267 = .ok (.lconst 0, 1) := by decide +kernel
theorem dL_works_268 : decode cL_works 268 = .ok (.invokestatic 131, 3) := by decide +kernel
theorem dL_works_271 : decode cL_works 271 = .ok (.ifCond .eq 7, 3) := by decide +kernel
theorem dL_works_274 : decode cL_works 274 = .ok (.iconst 1, 1) := by decide +kernel
theorem dL_works_275 : decode cL_works 275 = .ok (.goto 4, 3) := by decide +kernel
theorem dL_works_278 : decode cL_works 278 = .ok (.iconst 0, 1) := by decide +kernel
theorem dL_works_279 : decode cL_works 279 = .ok (.ireturn, 1) := by decide +kernel
theorem dL_works_280 : decode cL_works 280 = .ok (.iload_n 1, 1) := by decide +kernel
theorem dL_works_281 : decode cL_works 281 = .ok (.iconst 5, 1) := by decide +kernel
theorem dL_works_282 : decode cL_works 282 = .ok (.if_icmp .ne 100, 3) := by decide +kernel
theorem dL_works_285 : decode cL_works 285 = .ok (.iload 12, 2) := by decide +kernel
theorem dL_works_287 : decode cL_works 287 = .ok (.ifCond .eq 13, 3) := by decide +kernel
theorem dL_works_290 : decode cL_works 290 = .ok (.iload 10, 2) := by decide +kernel
theorem dL_works_292 : decode cL_works 292 = .ok (.iconst 3, 1) := by decide +kernel
theorem dL_works_293 : decode cL_works 293 = .ok (.if_icmp .eq 7, 3) := by decide +kernel
theorem dL_works_296 : decode cL_works 296 = .ok (.iconst 1, 1) := by decide +kernel
theorem dL_works_297 : decode cL_works 297 = .ok (.goto 4, 3) := by decide +kernel
theorem dL_works_300 : decode cL_works 300 = .ok (.iconst 0, 1) := by decide +kernel
theorem dL_works_301 : decode cL_works 301 = .ok (.istore 15, 2) := by decide +kernel
theorem dL_works_303 : decode cL_works 303 = .ok (.iload 14, 2) := by decide +kernel
theorem dL_works_305 : decode cL_works 305 = .ok (.iload 15, 2) := by decide +kernel
theorem dL_works_307 : decode cL_works 307 = .ok (.ifCond .eq 8, 3) := by decide +kernel
theorem dL_works_310 : decode cL_works 310 = .ok (.iload 10, 2) := by decide +kernel
theorem dL_works_312 : decode cL_works 312 = .ok (.goto 5, 3) := by decide +kernel
theorem dL_works_315 : decode cL_works 315 = .ok (.bipush (-8), 2) := by decide +kernel
theorem dL_works_317 : decode cL_works 317 = .ok (.if_icmp .ne 63, 3) := by decide +kernel
theorem dL_works_320 : decode cL_works 320 = .ok (.aload_n 0, 1) := by decide +kernel
theorem dL_works_321 : decode cL_works 321 = .ok (.iload_n 2, 1) := by decide +kernel
theorem dL_works_322 : decode cL_works 322 = .ok (.invokevirtual 68, 3) := by decide +kernel
theorem dL_works_325 : decode cL_works 325 = .ok (.iload 15, 2) := by decide +kernel
theorem dL_works_327 : decode cL_works 327 = .ok (.ifCond .eq 7, 3) := by decide +kernel
theorem dL_works_330 : decode cL_works 330 = .ok (.iconst 3, 1) := by decide +kernel
theorem dL_works_331 : decode cL_works 331 = .ok (.goto 5, 3) := by decide +kernel
theorem dL_works_334 : decode cL_works 334 = .ok (.iload 10, 2) := by decide +kernel
theorem dL_works_336 : decode cL_works 336 = .ok (.if_icmp .ne 44, 3) := by decide +kernel
theorem dL_works_339 : decode cL_works 339 = .ok (.aload_n 0, 1) := by decide +kernel
theorem dL_works_340 : decode cL_works 340 = .ok (.iload_n 2, 1) := by decide +kernel
theorem dL_works_341 : decode cL_works 341 = .ok (.invokevirtual 74, 3) := by decide +kernel
theorem dL_works_344 : decode cL_works 344 = .ok (.iload 15, 2) := by decide +kernel
theorem dL_works_346 : decode cL_works 346 = .ok (.ifCond .ne 8, 3) := by decide +kernel
theorem dL_works_349 : decode cL_works 349 = .ok (.iload 13, 2) := by decide +kernel
theorem dL_works_351 : decode cL_works 351 = .ok (.ifCond .eq 7, 3) := by decide +kernel
theorem dL_works_354 : decode cL_works 354 = .ok (.iconst 1, 1) := by decide +kernel
theorem dL_works_355 : decode cL_works 355 = .ok (.goto 4, 3) := by decide +kernel
theorem dL_works_358 : decode cL_works 358 = .ok (.iconst 0, 1) := by decide +kernel
theorem dL_works_359 : decode cL_works 359 = .ok (.if_icmp .ne 21, 3) := by decide +kernel
theorem dL_works_362 : decode cL_works 362 = .ok (.aload_n 0, 1) := by decide +kernel
theorem dL_works_363 : decode cL_works 363 = .ok (.aload 5, 2) := by decide +kernel
theorem dL_works_365 : decode cL_works 365 = .ok (.aload 6, 2) := by decide +kernel
theorem dL_works_367 : decode cL_works 367 = .ok (.lconst 1, 1) := by decide +kernel
theorem dL_works_368 : decode cL_works 368 = .ok (.iload_n 2, 1) := by decide +kernel
theorem dL_works_369 : decode cL_works 369 = .ok (.lshl, 1) := by decide +kernel
theorem dL_works_370 : decode cL_works 370 = .ok (.invokestatic 131, 3) := by decide +kernel
theorem dL_works_373 : decode cL_works 373 = .ok (.ifCond .eq 7, 3) := by decide +kernel
theorem dL_works_376 : decode cL_works 376 = .ok (.iconst 1, 1) := by decide +kernel
theorem dL_works_377 : decode cL_works 377 = .ok (.goto 4, 3) := by decide +kernel
theorem dL_works_380 : decode cL_works 380 = .ok (.iconst 0, 1) := by decide +kernel
theorem dL_works_381 : decode cL_works 381 = .ok (.ireturn, 1) := by decide +kernel
theorem dL_works_382 : decode cL_works 382 = .ok (.iload 12, 2) := by decide +kernel
theorem dL_works_384 : decode cL_works 384 = .ok (.ifCond .eq 19, 3) := by decide +kernel
theorem dL_works_387 : decode cL_works 387 = .ok (.iload 10, 2) := by decide +kernel
theorem dL_works_389 : decode cL_works 389 = .ok (.iconst 1, 1) := by decide +kernel
theorem dL_works_390 : decode cL_works 390 = .ok (.if_icmp .eq 13, 3) := by decide +kernel
theorem dL_works_393 : decode cL_works 393 = .ok (.iload 10, 2) := by decide +kernel
theorem dL_works_395 : decode cL_works 395 = .ok (.iconst 3, 1) := by decide +kernel
theorem dL_works_396 : decode cL_works 396 = .ok (.if_icmp .eq 7, 3) := by decide +kernel
theorem dL_works_399 : decode cL_works 399 = .ok (.iconst 1, 1) := by decide +kernel
theorem dL_works_400 : decode cL_works 400 = .ok (.goto 4, 3) := by decide +kernel
theorem dL_works_403 : decode cL_works 403 = .ok (.iconst 0, 1) := by decide +kernel
theorem dL_works_404 : decode cL_works 404 = .ok (.istore 15, 2) := by decide +kernel
theorem dL_works_406 : decode cL_works 406 = .ok (.iload_n 3, 1) := by decide +kernel
theorem dL_works_407 : decode cL_works 407 = .ok (.iconst 3, 1) := by decide +kernel
theorem dL_works_408 : decode cL_works 408 = .ok (.irem, 1) := by decide +kernel
theorem dL_works_409 : decode cL_works 409 = .ok (.aload 7, 2) := by decide +kernel
theorem dL_works_411 : decode cL_works 411 = .ok (.iload_n 2, 1) := by decide +kernel
theorem dL_works_412 : decode cL_works 412 = .ok (.iaload, 1) := by decide +kernel
theorem dL_works_413 : decode cL_works 413 = .ok (.iconst 3, 1) := by decide +kernel
theorem dL_works_414 : decode cL_works 414 = .ok (.iand, 1) := by decide +kernel
theorem dL_works_415 : decode cL_works 415 = .ok (.if_icmp .ne 17, 3) := by decide +kernel
theorem dL_works_418 : decode cL_works 418 = .ok (.aload 7, 2) := by decide +kernel
theorem dL_works_420 : decode cL_works 420 = .ok (.iload_n 2, 1) := by decide +kernel
theorem dL_works_421 : decode cL_works 421 = .ok (.iaload, 1) := by decide +kernel
theorem dL_works_422 : decode cL_works 422 = .ok (.iconst 2, 1) := by decide +kernel
theorem dL_works_423 : decode cL_works 423 = .ok (.ishr, 1) := by decide +kernel
theorem dL_works_424 : decode cL_works 424 = .ok (.iconst 3, 1) := by decide +kernel
theorem dL_works_425 : decode cL_works 425 = .ok (.if_icmp .ge 7, 3) := by decide +kernel
theorem dL_works_428 : decode cL_works 428 = .ok (.iconst 1, 1) := by decide +kernel
theorem dL_works_429 : decode cL_works 429 = .ok (.goto 4, 3) := by decide +kernel
theorem dL_works_432 : decode cL_works 432 = .ok (.iconst 2, 1) := by decide +kernel
theorem dL_works_433 : decode cL_works 433 = .ok (.istore 16, 2) := by decide +kernel
theorem dL_works_435 : decode cL_works 435 = .ok (.aload 9, 2) := by decide +kernel
theorem dL_works_437 : decode cL_works 437 = .ok (.iload_n 2, 1) := by decide +kernel
theorem dL_works_438 : decode cL_works 438 = .ok (.iload 15, 2) := by decide +kernel
theorem dL_works_440 : decode cL_works 440 = .ok (.ifCond .eq 8, 3) := by decide +kernel
theorem dL_works_443 : decode cL_works 443 = .ok (.iload 11, 2) := by decide +kernel
theorem dL_works_445 : decode cL_works 445 = .ok (.goto 7, 3) := by decide +kernel
theorem dL_works_448 : decode cL_works 448 = .ok (.aload 9, 2) := by decide +kernel
theorem dL_works_450 : decode cL_works 450 = .ok (.iload_n 2, 1) := by decide +kernel
theorem dL_works_451 : decode cL_works 451 = .ok (.iaload, 1) := by decide +kernel
theorem dL_works_452 : decode cL_works 452 = .ok (.iastore, 1) := by decide +kernel
theorem dL_works_453 : decode cL_works 453 = .ok (.iload 14, 2) := by decide +kernel
theorem dL_works_455 : decode cL_works 455 = .ok (.iload 15, 2) := by decide +kernel
theorem dL_works_457 : decode cL_works 457 = .ok (.ifCond .eq 8, 3) := by decide +kernel
theorem dL_works_460 : decode cL_works 460 = .ok (.iload 16, 2) := by decide +kernel
theorem dL_works_462 : decode cL_works 462 = .ok (.goto 5, 3) := by decide +kernel
theorem dL_works_465 : decode cL_works 465 = .ok (.bipush (-8), 2) := by decide +kernel
theorem dL_works_467 : decode cL_works 467 = .ok (.if_icmp .ne 60, 3) := by decide +kernel
theorem dL_works_470 : decode cL_works 470 = .ok (.aload_n 0, 1) := by decide +kernel
theorem dL_works_471 : decode cL_works 471 = .ok (.iload_n 2, 1) := by decide +kernel
theorem dL_works_472 : decode cL_works 472 = .ok (.invokevirtual 68, 3) := by decide +kernel
theorem dL_works_475 : decode cL_works 475 = .ok (.iload 15, 2) := by decide +kernel
theorem dL_works_477 : decode cL_works 477 = .ok (.ifCond .eq 8, 3) := by decide +kernel
theorem dL_works_480 : decode cL_works 480 = .ok (.iload 16, 2) := by decide +kernel
theorem dL_works_482 : decode cL_works 482 = .ok (.goto 5, 3) := by decide +kernel
theorem dL_works_485 : decode cL_works 485 = .ok (.iload 10, 2) := by decide +kernel
theorem dL_works_487 : decode cL_works 487 = .ok (.if_icmp .ne 40, 3) := by decide +kernel
theorem dL_works_490 : decode cL_works 490 = .ok (.aload_n 0, 1) := by decide +kernel
theorem dL_works_491 : decode cL_works 491 = .ok (.iload_n 2, 1) := by decide +kernel
theorem dL_works_492 : decode cL_works 492 = .ok (.invokevirtual 74, 3) := by decide +kernel
theorem dL_works_495 : decode cL_works 495 = .ok (.iload 15, 2) := by decide +kernel
theorem dL_works_497 : decode cL_works 497 = .ok (.ifCond .eq 7, 3) := by decide +kernel
theorem dL_works_500 : decode cL_works 500 = .ok (.iconst 0, 1) := by decide +kernel
theorem dL_works_501 : decode cL_works 501 = .ok (.goto 5, 3) := by decide +kernel
theorem dL_works_504 : decode cL_works 504 = .ok (.iload 13, 2) := by decide +kernel
theorem dL_works_506 : decode cL_works 506 = .ok (.if_icmp .ne 21, 3) := by decide +kernel
theorem dL_works_509 : decode cL_works 509 = .ok (.aload_n 0, 1) := by decide +kernel
theorem dL_works_510 : decode cL_works 510 = .ok (.aload 5, 2) := by decide +kernel
theorem dL_works_512 : decode cL_works 512 = .ok (.aload 6, 2) := by decide +kernel
theorem dL_works_514 : decode cL_works 514 = .ok (.lconst 1, 1) := by decide +kernel
theorem dL_works_515 : decode cL_works 515 = .ok (.iload_n 2, 1) := by decide +kernel
theorem dL_works_516 : decode cL_works 516 = .ok (.lshl, 1) := by decide +kernel
theorem dL_works_517 : decode cL_works 517 = .ok (.invokestatic 131, 3) := by decide +kernel
theorem dL_works_520 : decode cL_works 520 = .ok (.ifCond .eq 7, 3) := by decide +kernel
theorem dL_works_523 : decode cL_works 523 = .ok (.iconst 1, 1) := by decide +kernel
theorem dL_works_524 : decode cL_works 524 = .ok (.goto 4, 3) := by decide +kernel
theorem dL_works_527 : decode cL_works 527 = .ok (.iconst 0, 1) := by decide +kernel
theorem dL_works_528 : decode cL_works 528 = .ok (.ireturn, 1) := by decide +kernel
theorem dL_loses_0 : decode cL_loses 0 = .ok (.aload 5, 2) := by decide +kernel
theorem dL_loses_2 : decode cL_loses 2 = .ok (.iload_n 2, 1) := by decide +kernel
theorem dL_loses_3 : decode cL_loses 3 = .ok (.invokestatic 90, 3) := by decide +kernel
theorem dL_loses_6 : decode cL_loses 6 = .ok (.istore 6, 2) := by decide +kernel
theorem dL_loses_8 : decode cL_loses 8 = .ok (.aload_n 0, 1) := by decide +kernel
theorem dL_loses_9 : decode cL_loses 9 = .ok (.iload_n 2, 1) := by decide +kernel
theorem dL_loses_10 : decode cL_loses 10 = .ok (.invokevirtual 65, 3) := by decide +kernel
theorem dL_loses_13 : decode cL_loses 13 = .ok (.istore 7, 2) := by decide +kernel
theorem dL_loses_15 : decode cL_loses 15 = .ok (.aload_n 0, 1) := by decide +kernel
theorem dL_loses_16 : decode cL_loses 16 = .ok (.iload_n 1, 1) := by decide +kernel
theorem dL_loses_17 : decode cL_loses 17 = .ok (.iload_n 2, 1) := by decide +kernel
theorem dL_loses_18 : decode cL_loses 18 = .ok (.iconst 0, 1) := by decide +kernel
theorem dL_loses_19 : decode cL_loses 19 = .ok (.iconst 0, 1) := by decide +kernel
theorem dL_loses_20 : decode cL_loses 20 = .ok (.invokestatic 127, 3) := by decide +kernel
theorem dL_loses_23 : decode cL_loses 23 = .ok (.istore 8, 2) := by decide +kernel
theorem dL_loses_25 : decode cL_loses 25 = .ok (.iload 6, 2) := by decide +kernel
theorem dL_loses_27 : decode cL_loses 27 = .ok (.iload_n 1, 1) := by decide +kernel
theorem dL_loses_28 : decode cL_loses 28 = .ok (.bipush 7, 2) := by decide +kernel
theorem dL_loses_30 : decode cL_loses 30 = .ok (.if_icmp .ne 7, 3) := by decide +kernel
theorem dL_loses_33 : decode cL_loses 33 = .ok (.iconst 1, 1) := by decide +kernel
theorem dL_loses_34 : decode cL_loses 34 = .ok (.goto 4, 3) := by decide +kernel
theorem dL_loses_37 : decode cL_loses 37 = .ok (.iconst 0, 1) := by decide +kernel
theorem dL_loses_38 : decode cL_loses 38 = .ok (.if_icmp .ne 27, 3) := by decide +kernel
theorem dL_loses_41 : decode cL_loses 41 = .ok (.iload 8, 2) := by decide +kernel
theorem dL_loses_43 : decode cL_loses 43 = .ok (.bipush (-8), 2) := by decide +kernel
theorem dL_loses_45 : decode cL_loses 45 = .ok (.if_icmp .ne 18, 3) := by decide +kernel
theorem dL_loses_48 : decode cL_loses 48 = .ok (.aload_n 0, 1) := by decide +kernel
theorem dL_loses_49 : decode cL_loses 49 = .ok (.aload_n 3, 1) := by decide +kernel
theorem dL_loses_50 : decode cL_loses 50 = .ok (.aload 4, 2) := by decide +kernel
theorem dL_loses_52 : decode cL_loses 52 = .ok (.lconst 0, 1) := by decide +kernel
theorem dL_loses_53 : decode cL_loses 53 = .ok (.invokestatic 131, 3) := by decide +kernel
theorem dL_loses_56 : decode cL_loses 56 = .ok (.ifCond .eq 7, 3) := by decide +kernel
theorem dL_loses_59 : decode cL_loses 59 = .ok (.iconst 1, 1) := by decide +kernel
theorem dL_loses_60 : decode cL_loses 60 = .ok (.goto 4, 3) := by decide +kernel
theorem dL_loses_63 : decode cL_loses 63 = .ok (.iconst 0, 1) := by decide +kernel
theorem dL_loses_64 : decode cL_loses 64 = .ok (.ireturn, 1) := by decide +kernel
theorem dL_loses_65 : decode cL_loses 65 = .ok (.aload 5, 2) := by decide +kernel
theorem dL_loses_67 : decode cL_loses 67 = .ok (.iconst 0, 1) := by decide +kernel
theorem dL_loses_68 : decode cL_loses 68 = .ok (.dup2, 1) := by decide +kernel
theorem dL_loses_69 : decode cL_loses 69 = .ok (.laload, 1) := by decide +kernel
theorem dL_loses_70 : decode cL_loses 70 = .ok (.lconst 1, 1) := by decide +kernel
theorem dL_loses_71 : decode cL_loses 71 = .ok (.iload_n 2, 1) := by decide +kernel
theorem dL_loses_72 : decode cL_loses 72 = .ok (.lshl, 1) := by decide +kernel
theorem dL_loses_73 : decode cL_loses 73 = .ok (.lxor, 1) := by decide +kernel
theorem dL_loses_74 : decode cL_loses 74 = .ok (.lastore, 1) := by decide +kernel
theorem dL_loses_75 : decode cL_loses 75 = .ok (.iload 8, 2) := by decide +kernel
theorem dL_loses_77 : decode cL_loses 77 = .ok (.iload_n 1, 1) := by decide +kernel
theorem dL_loses_78 : decode cL_loses 78 = .ok (.bipush 7, 2) := by decide +kernel
theorem dL_loses_80 : decode cL_loses 80 = .ok (.if_icmp .ne 11, 3) := by decide +kernel
theorem dL_loses_83 : decode cL_loses 83 = .ok (.aload_n 0, 1) := by decide +kernel
theorem dL_loses_84 : decode cL_loses 84 = .ok (.iload_n 2, 1) := by decide +kernel
theorem dL_loses_85 : decode cL_loses 85 = .ok (.invokevirtual 62, 3) := by decide +kernel
theorem dL_loses_88 : decode cL_loses 88 = .ok (.goto 5, 3) := by decide +kernel
theorem dL_loses_91 : decode cL_loses 91 = .ok (.iload 7, 2) := by decide +kernel
theorem dL_loses_93 : decode cL_loses 93 = .ok (.if_icmp .ne 39, 3) := by decide +kernel
theorem dL_loses_96 : decode cL_loses 96 = .ok (.aload_n 0, 1) := by decide +kernel
theorem dL_loses_97 : decode cL_loses 97 = .ok (.iload_n 2, 1) := by decide +kernel
theorem dL_loses_98 : decode cL_loses 98 = .ok (.invokevirtual 65, 3) := by decide +kernel
theorem dL_loses_101 : decode cL_loses 101 = .ok (.iload 7, 2) := by decide +kernel
theorem dL_loses_103 : decode cL_loses 103 = .ok (.if_icmp .ne 29, 3) := by decide +kernel
theorem dL_loses_106 : decode cL_loses 106 = .ok (.aload_n 0, 1) := by decide +kernel
theorem dL_loses_107 : decode cL_loses 107 = .ok (.iload_n 2, 1) := by decide +kernel
theorem dL_loses_108 : decode cL_loses 108 = .ok (.invokevirtual 71, 3) := by decide +kernel
theorem dL_loses_111 : decode cL_loses 111 = .ok (.iconst (-1), 1) := by decide +kernel
theorem dL_loses_112 : decode cL_loses 112 = .ok (.if_icmp .ne 20, 3) := by decide +kernel
theorem dL_loses_115 : decode cL_loses 115 = .ok (.aload_n 0, 1) := by decide +kernel
theorem dL_loses_116 : decode cL_loses 116 = .ok (.aload_n 3, 1) := by decide +kernel
theorem dL_loses_117 : decode cL_loses 117 = .ok (.aload 4, 2) := by decide +kernel
theorem dL_loses_119 : decode cL_loses 119 = .ok (.lconst 1, 1) := by decide +kernel
theorem dL_loses_120 : decode cL_loses 120 = .ok (.iload_n 2, 1) := by decide +kernel
theorem dL_loses_121 : decode cL_loses 121 = .ok (.lshl, 1) := by decide +kernel
theorem dL_loses_122 : decode cL_loses 122 = .ok (.invokestatic 131, 3) := by decide +kernel
theorem dL_loses_125 : decode cL_loses 125 = .ok (.ifCond .eq 7, 3) := by decide +kernel
theorem dL_loses_128 : decode cL_loses 128 = .ok (.iconst 1, 1) := by decide +kernel
theorem dL_loses_129 : decode cL_loses 129 = .ok (.goto 4, 3) := by decide +kernel
theorem dL_loses_132 : decode cL_loses 132 = .ok (.iconst 0, 1) := by decide +kernel
theorem dL_loses_133 : decode cL_loses 133 = .ok (.ireturn, 1) := by decide +kernel
theorem dL_crates_0 : decode cL_crates 0 = .ok (.aload_n 0, 1) := by decide +kernel
theorem dL_crates_1 : decode cL_crates 1 = .ok (.iload_n 2, 1) := by decide +kernel
theorem dL_crates_2 : decode cL_crates 2 = .ok (.invokevirtual 87, 3) := by decide +kernel
theorem dL_crates_5 : decode cL_crates 5 = .ok (.istore 7, 2) := by decide +kernel
theorem dL_crates_7 : decode cL_crates 7 = .ok (.aload_n 0, 1) := by decide +kernel
theorem dL_crates_8 : decode cL_crates 8 = .ok (.iload_n 2, 1) := by decide +kernel
theorem dL_crates_9 : decode cL_crates 9 = .ok (.invokevirtual 114, 3) := by decide +kernel
theorem dL_crates_12 : decode cL_crates 12 = .ok (.istore 8, 2) := by decide +kernel
theorem dL_crates_14 : decode cL_crates 14 = .ok (.aload_n 0, 1) := by decide +kernel
theorem dL_crates_15 : decode cL_crates 15 = .ok (.aload 4, 2) := by decide +kernel
theorem dL_crates_17 : decode cL_crates 17 = .ok (.iload_n 2, 1) := by decide +kernel
theorem dL_crates_18 : decode cL_crates 18 = .ok (.invokestatic 135, 3) := by decide +kernel
theorem dL_crates_21 : decode cL_crates 21 = .ok (.istore 9, 2) := by decide +kernel
theorem dL_crates_23 : decode cL_crates 23 = .ok (.iload_n 1, 1) := by decide +kernel
theorem dL_crates_24 : decode cL_crates 24 = .ok (.bipush 9, 2) := by decide +kernel
theorem dL_crates_26 : decode cL_crates 26 = .ok (.if_icmp .ne 130, 3) := by decide +kernel
theorem dL_crates_29 : decode cL_crates 29 = .ok (.iload 7, 2) := by decide +kernel
theorem dL_crates_31 : decode cL_crates 31 = .ok (.iconst (-1), 1) := by decide +kernel
theorem dL_crates_32 : decode cL_crates 32 = .ok (.if_icmp .ne 16, 3) := by decide +kernel
theorem dL_crates_35 : decode cL_crates 35 = .ok (.aload 4, 2) := by decide +kernel
theorem dL_crates_37 : decode cL_crates 37 = .ok (.iconst 3, 1) := by decide +kernel
theorem dL_crates_38 : decode cL_crates 38 = .ok (.iaload, 1) := by decide +kernel
theorem dL_crates_39 : decode cL_crates 39 = .ok (.bipush 100, 2) := by decide +kernel
theorem dL_crates_41 : decode cL_crates 41 = .ok (.if_icmp .ge 7, 3) := by decide +kernel
theorem dL_crates_44 : decode cL_crates 44 = .ok (.iconst 1, 1) := by decide +kernel
theorem dL_crates_45 : decode cL_crates 45 = .ok (.goto 4, 3) := by decide +kernel
theorem dL_crates_48 : decode cL_crates 48 = .ok (.iconst 0, 1) := by decide +kernel
theorem dL_crates_49 : decode cL_crates 49 = .ok (.istore 10, 2) := by decide +kernel
theorem dL_crates_51 : decode cL_crates 51 = .ok (.aload_n 0, 1) := by decide +kernel
theorem dL_crates_52 : decode cL_crates 52 = .ok (.bipush 9, 2) := by decide +kernel
theorem dL_crates_54 : decode cL_crates 54 = .ok (.iload_n 2, 1) := by decide +kernel
theorem dL_crates_55 : decode cL_crates 55 = .ok (.iconst 0, 1) := by decide +kernel
theorem dL_crates_56 : decode cL_crates 56 = .ok (.iconst 0, 1) := by decide +kernel
theorem dL_crates_57 : decode cL_crates 57 = .ok (.invokestatic 127, 3) := by decide +kernel
theorem dL_crates_60 : decode cL_crates 60 = .ok (.istore 11, 2) := by decide +kernel
theorem dL_crates_62 : decode cL_crates 62 = .ok (.aload 6, 2) := by decide +kernel
theorem dL_crates_64 : decode cL_crates 64 = .ok (.iload_n 2, 1) := by decide +kernel
theorem dL_crates_65 : decode cL_crates 65 = .ok (.iload 10, 2) := by decide +kernel
theorem dL_crates_67 : decode cL_crates 67 = .ok (.ifCond .eq 8, 3) := by decide +kernel
theorem dL_crates_70 : decode cL_crates 70 = .ok (.iload 9, 2) := by decide +kernel
theorem dL_crates_72 : decode cL_crates 72 = .ok (.goto 7, 3) := by decide +kernel
theorem dL_crates_75 : decode cL_crates 75 = .ok (.aload 6, 2) := by decide +kernel
theorem dL_crates_77 : decode cL_crates 77 = .ok (.iload_n 2, 1) := by decide +kernel
theorem dL_crates_78 : decode cL_crates 78 = .ok (.iaload, 1) := by decide +kernel
theorem dL_crates_79 : decode cL_crates 79 = .ok (.iastore, 1) := by decide +kernel
theorem dL_crates_80 : decode cL_crates 80 = .ok (.aload 4, 2) := by decide +kernel
theorem dL_crates_82 : decode cL_crates 82 = .ok (.iconst 3, 1) := by decide +kernel
theorem dL_crates_83 : decode cL_crates 83 = .ok (.dup2, 1) := by decide +kernel
theorem dL_crates_84 : decode cL_crates 84 = .ok (.iaload, 1) := by decide +kernel
theorem dL_crates_85 : decode cL_crates 85 = .ok (.iload 10, 2) := by decide +kernel
theorem dL_crates_87 : decode cL_crates 87 = .ok (.ifCond .eq 7, 3) := by decide +kernel
theorem dL_crates_90 : decode cL_crates 90 = .ok (.iconst 1, 1) := by decide +kernel
theorem dL_crates_91 : decode cL_crates 91 = .ok (.goto 4, 3) := by decide +kernel
theorem dL_crates_94 : decode cL_crates 94 = .ok (.iconst 0, 1) := by decide +kernel
theorem dL_crates_95 : decode cL_crates 95 = .ok (.iadd, 1) := by decide +kernel
theorem dL_crates_96 : decode cL_crates 96 = .ok (.iastore, 1) := by decide +kernel
theorem dL_crates_97 : decode cL_crates 97 = .ok (.iload 11, 2) := by decide +kernel
theorem dL_crates_99 : decode cL_crates 99 = .ok (.iload 10, 2) := by decide +kernel
theorem dL_crates_101 : decode cL_crates 101 = .ok (.ifCond .eq 12, 3) := by decide +kernel
theorem dL_crates_104 : decode cL_crates 104 = .ok (.aload 4, 2) := by decide +kernel
theorem dL_crates_106 : decode cL_crates 106 = .ok (.iconst 3, 1) := by decide +kernel
theorem dL_crates_107 : decode cL_crates 107 = .ok (.iaload, 1) := by decide +kernel
theorem dL_crates_108 : decode cL_crates 108 = .ok (.iconst 1, 1) := by decide +kernel
theorem dL_crates_109 : decode cL_crates 109 = .ok (.isub, 1) := by decide +kernel
theorem dL_crates_110 : decode cL_crates 110 = .ok (.goto 5, 3) := by decide +kernel
theorem dL_crates_113 : decode cL_crates 113 = .ok (.bipush (-8), 2) := by decide +kernel
theorem dL_crates_115 : decode cL_crates 115 = .ok (.if_icmp .ne 39, 3) := by decide +kernel
theorem dL_crates_118 : decode cL_crates 118 = .ok (.aload_n 0, 1) := by decide +kernel
theorem dL_crates_119 : decode cL_crates 119 = .ok (.iload_n 2, 1) := by decide +kernel
theorem dL_crates_120 : decode cL_crates 120 = .ok (.invokevirtual 87, 3) := by decide +kernel
theorem dL_crates_123 : decode cL_crates 123 = .ok (.iload 10, 2) := by decide +kernel
theorem dL_crates_125 : decode cL_crates 125 = .ok (.ifCond .eq 8, 3) := by decide +kernel
theorem dL_crates_128 : decode cL_crates 128 = .ok (.iload 11, 2) := by decide +kernel
theorem dL_crates_130 : decode cL_crates 130 = .ok (.goto 5, 3) := by decide +kernel
theorem dL_crates_133 : decode cL_crates 133 = .ok (.iload 7, 2) := by decide +kernel
theorem dL_crates_135 : decode cL_crates 135 = .ok (.if_icmp .ne 19, 3) := by decide +kernel
theorem dL_crates_138 : decode cL_crates 138 = .ok (.aload_n 0, 1) := by decide +kernel
theorem dL_crates_139 : decode cL_crates 139 = .ok (.aload 4, 2) := by decide +kernel
theorem dL_crates_141 : decode cL_crates 141 = .ok (.aload 5, 2) := by decide +kernel
theorem dL_crates_143 : decode cL_crates 143 = .ok (.lconst 0, 1) := by decide +kernel
theorem dL_crates_144 : decode cL_crates 144 = .ok (.invokestatic 131, 3) := by decide +kernel
theorem dL_crates_147 : decode cL_crates 147 = .ok (.ifCond .eq 7, 3) := by decide +kernel
theorem dL_crates_150 : decode cL_crates 150 = .ok (.iconst 1, 1) := by decide +kernel
theorem dL_crates_151 : decode cL_crates 151 = .ok (.goto 4, 3) := by decide +kernel
theorem dL_crates_154 : decode cL_crates 154 = .ok (.iconst 0, 1) := by decide +kernel
theorem dL_crates_155 : decode cL_crates 155 = .ok (.ireturn, 1) := by decide +kernel
theorem dL_crates_156 : decode cL_crates 156 = .ok (.iload_n 1, 1) := by decide +kernel
theorem dL_crates_157 : decode cL_crates 157 = .ok (.bipush 10, 2) := by decide +kernel
theorem dL_crates_159 : decode cL_crates 159 = .ok (.if_icmp .ne 111, 3) := by decide +kernel
theorem dL_crates_162 : decode cL_crates 162 = .ok (.iload_n 3, 1) := by decide +kernel
theorem dL_crates_163 : decode cL_crates 163 = .ok (.iconst 3, 1) := by decide +kernel
theorem dL_crates_164 : decode cL_crates 164 = .ok (.irem, 1) := by decide +kernel
theorem dL_crates_165 : decode cL_crates 165 = .ok (.ifCond .le 10, 3) := by decide +kernel
theorem dL_crates_168 : decode cL_crates 168 = .ok (.aload 6, 2) := by decide +kernel
theorem dL_crates_170 : decode cL_crates 170 = .ok (.iload_n 2, 1) := by decide +kernel
theorem dL_crates_171 : decode cL_crates 171 = .ok (.iaload, 1) := by decide +kernel
theorem dL_crates_172 : decode cL_crates 172 = .ok (.goto 9, 3) := by decide +kernel
theorem dL_crates_175 : decode cL_crates 175 = .ok (.iload_n 3, 1) := by decide +kernel
theorem dL_crates_176 : decode cL_crates 176 = .ok (.iconst 3, 1) := by decide +kernel
theorem dL_crates_177 : decode cL_crates 177 = .ok (.idiv, 1) := by decide +kernel
theorem dL_crates_178 : decode cL_crates 178 = .ok (.bipush 100, 2) := by decide +kernel
theorem dL_crates_180 : decode cL_crates 180 = .ok (.irem, 1) := by decide +kernel
theorem dL_crates_181 : decode cL_crates 181 = .ok (.istore 10, 2) := by decide +kernel
theorem dL_crates_183 : decode cL_crates 183 = .ok (.aload_n 0, 1) := by decide +kernel
theorem dL_crates_184 : decode cL_crates 184 = .ok (.bipush 10, 2) := by decide +kernel
theorem dL_crates_186 : decode cL_crates 186 = .ok (.iload_n 2, 1) := by decide +kernel
theorem dL_crates_187 : decode cL_crates 187 = .ok (.iload 10, 2) := by decide +kernel
theorem dL_crates_189 : decode cL_crates 189 = .ok (.iconst 0, 1) := by decide +kernel
theorem dL_crates_190 : decode cL_crates 190 = .ok (.invokestatic 127, 3) := by decide +kernel
theorem dL_crates_193 : decode cL_crates 193 = .ok (.istore 11, 2) := by decide +kernel
theorem dL_crates_195 : decode cL_crates 195 = .ok (.aload 4, 2) := by decide +kernel
theorem dL_crates_197 : decode cL_crates 197 = .ok (.iconst 4, 1) := by decide +kernel
theorem dL_crates_198 : decode cL_crates 198 = .ok (.dup2, 1) := by decide +kernel
theorem dL_crates_199 : decode cL_crates 199 = .ok (.iaload, 1) := by decide +kernel
theorem dL_crates_200 : decode cL_crates 200 = .ok (.iload 7, 2) := by decide +kernel
theorem dL_crates_202 : decode cL_crates 202 = .ok (.ifCond .lt 16, 3) := by decide +kernel
theorem dL_crates_205 : decode cL_crates 205 = .ok (.iload 10, 2) := by decide +kernel
theorem dL_crates_207 : decode cL_crates 207 = .ok (.aload 6, 2) := by decide +kernel
theorem dL_crates_209 : decode cL_crates 209 = .ok (.iload_n 2, 1) := by decide +kernel
theorem dL_crates_210 : decode cL_crates 210 = .ok (.iaload, 1) := by decide +kernel
theorem dL_crates_211 : decode cL_crates 211 = .ok (.if_icmp .eq 7, 3) := by decide +kernel
theorem dL_crates_214 : decode cL_crates 214 = .ok (.iconst 1, 1) := by decide +kernel
theorem dL_crates_215 : decode cL_crates 215 = .ok (.goto 4, 3) := by decide +kernel
theorem dL_crates_218 : decode cL_crates 218 = .ok (.iconst 0, 1) := by decide +kernel
theorem dL_crates_219 : decode cL_crates 219 = .ok (.iadd, 1) := by decide +kernel
theorem dL_crates_220 : decode cL_crates 220 = .ok (.iastore, 1) := by decide +kernel
theorem dL_crates_221 : decode cL_crates 221 = .ok (.iload 11, 2) := by decide +kernel
theorem dL_crates_223 : decode cL_crates 223 = .ok (.iload 7, 2) := by decide +kernel
theorem dL_crates_225 : decode cL_crates 225 = .ok (.ifCond .ge 8, 3) := by decide +kernel
theorem dL_crates_228 : decode cL_crates 228 = .ok (.bipush (-8), 2) := by decide +kernel
theorem dL_crates_230 : decode cL_crates 230 = .ok (.goto 10, 3) := by decide +kernel
theorem dL_crates_233 : decode cL_crates 233 = .ok (.iload 10, 2) := by decide +kernel
theorem dL_crates_235 : decode cL_crates 235 = .ok (.aload 6, 2) := by decide +kernel
theorem dL_crates_237 : decode cL_crates 237 = .ok (.iload_n 2, 1) := by decide +kernel
theorem dL_crates_238 : decode cL_crates 238 = .ok (.iaload, 1) := by decide +kernel
theorem dL_crates_239 : decode cL_crates 239 = .ok (.isub, 1) := by decide +kernel
theorem dL_crates_240 : decode cL_crates 240 = .ok (.if_icmp .ne 28, 3) := by decide +kernel
theorem dL_crates_243 : decode cL_crates 243 = .ok (.aload_n 0, 1) := by decide +kernel
theorem dL_crates_244 : decode cL_crates 244 = .ok (.iload_n 2, 1) := by decide +kernel
theorem dL_crates_245 : decode cL_crates 245 = .ok (.invokevirtual 87, 3) := by decide +kernel
theorem dL_crates_248 : decode cL_crates 248 = .ok (.iconst (-1), 1) := by decide +kernel
theorem dL_crates_249 : decode cL_crates 249 = .ok (.if_icmp .ne 19, 3) := by decide +kernel
theorem dL_crates_252 : decode cL_crates 252 = .ok (.aload_n 0, 1) := by decide +kernel
theorem dL_crates_253 : decode cL_crates 253 = .ok (.aload 4, 2) := by decide +kernel
theorem dL_crates_255 : decode cL_crates 255 = .ok (.aload 5, 2) := by decide +kernel
theorem dL_crates_257 : decode cL_crates 257 = .ok (.lconst 0, 1) := by decide +kernel
theorem dL_crates_258 : decode cL_crates 258 = .ok (.invokestatic 131, 3) := by decide +kernel
theorem dL_crates_261 : decode cL_crates 261 = .ok (.ifCond .eq 7, 3) := by decide +kernel
theorem dL_crates_264 : decode cL_crates 264 = .ok (.iconst 1, 1) := by decide +kernel
theorem dL_crates_265 : decode cL_crates 265 = .ok (.goto 4, 3) := by decide +kernel
theorem dL_crates_268 : decode cL_crates 268 = .ok (.iconst 0, 1) := by decide +kernel
theorem dL_crates_269 : decode cL_crates 269 = .ok (.ireturn, 1) := by decide +kernel
theorem dL_crates_270 : decode cL_crates 270 = .ok (.iload_n 3, 1) := by decide +kernel
theorem dL_crates_271 : decode cL_crates 271 = .ok (.bipush 8, 2) := by decide +kernel
theorem dL_crates_273 : decode cL_crates 273 = .ok (.irem, 1) := by decide +kernel
theorem dL_crates_274 : decode cL_crates 274 = .ok (.istore 10, 2) := by decide +kernel
theorem dL_crates_276 : decode cL_crates 276 = .ok (.iload 7, 2) := by decide +kernel
theorem dL_crates_278 : decode cL_crates 278 = .ok (.ifCond .ge 8, 3) := by decide +kernel
theorem dL_crates_281 : decode cL_crates 281 = .ok (.iload 9, 2) := by decide +kernel
theorem dL_crates_283 : decode cL_crates 283 = .ok (.ifCond .ne 7, 3) := by decide +kernel
theorem dL_crates_286 : decode cL_crates 286 = .ok (.iconst 1, 1) := by decide +kernel
theorem dL_crates_287 : decode cL_crates 287 = .ok (.goto 4, 3) := by decide +kernel
theorem dL_crates_290 : decode cL_crates 290 = .ok (.iconst 0, 1) := by decide +kernel
theorem dL_crates_291 : decode cL_crates 291 = .ok (.istore 11, 2) := by decide +kernel
theorem dL_crates_293 : decode cL_crates 293 = .ok (.aload_n 0, 1) := by decide +kernel
theorem dL_crates_294 : decode cL_crates 294 = .ok (.bipush 11, 2) := by decide +kernel
theorem dL_crates_296 : decode cL_crates 296 = .ok (.iload_n 2, 1) := by decide +kernel
theorem dL_crates_297 : decode cL_crates 297 = .ok (.iload 10, 2) := by decide +kernel
theorem dL_crates_299 : decode cL_crates 299 = .ok (.iconst 0, 1) := by decide +kernel
theorem dL_crates_300 : decode cL_crates 300 = .ok (.invokestatic 127, 3) := by decide +kernel
theorem dL_crates_303 : decode cL_crates 303 = .ok (.istore 12, 2) := by decide +kernel
theorem dL_crates_305 : decode cL_crates 305 = .ok (.iload 10, 2) := by decide +kernel
theorem dL_crates_307 : decode cL_crates 307 = .ok (.iload 8, 2) := by decide +kernel
theorem dL_crates_309 : decode cL_crates 309 = .ok (.if_icmp .eq 8, 3) := by decide +kernel
theorem dL_crates_312 : decode cL_crates 312 = .ok (.iload 11, 2) := by decide +kernel
theorem dL_crates_314 : decode cL_crates 314 = .ok (.ifCond .ne 40, 3) := by decide +kernel
theorem dL_crates_317 : decode cL_crates 317 = .ok (.iload 12, 2) := by decide +kernel
theorem dL_crates_319 : decode cL_crates 319 = .ok (.iload 10, 2) := by decide +kernel
theorem dL_crates_321 : decode cL_crates 321 = .ok (.iload 8, 2) := by decide +kernel
theorem dL_crates_323 : decode cL_crates 323 = .ok (.if_icmp .ne 8, 3) := by decide +kernel
theorem dL_crates_326 : decode cL_crates 326 = .ok (.bipush (-9), 2) := by decide +kernel
theorem dL_crates_328 : decode cL_crates 328 = .ok (.goto 5, 3) := by decide +kernel
theorem dL_crates_331 : decode cL_crates 331 = .ok (.bipush (-8), 2) := by decide +kernel
theorem dL_crates_333 : decode cL_crates 333 = .ok (.if_icmp .ne 19, 3) := by decide +kernel
theorem dL_crates_336 : decode cL_crates 336 = .ok (.aload_n 0, 1) := by decide +kernel
theorem dL_crates_337 : decode cL_crates 337 = .ok (.aload 4, 2) := by decide +kernel
theorem dL_crates_339 : decode cL_crates 339 = .ok (.aload 5, 2) := by decide +kernel
theorem dL_crates_341 : decode cL_crates 341 = .ok (.lconst 0, 1) := by decide +kernel
theorem dL_crates_342 : decode cL_crates 342 = .ok (.invokestatic 131, 3) := by decide +kernel
theorem dL_crates_345 : decode cL_crates 345 = .ok (.ifCond .eq 7, 3) := by decide +kernel
theorem dL_crates_348 : decode cL_crates 348 = .ok (.iconst 1, 1) := by decide +kernel
theorem dL_crates_349 : decode cL_crates 349 = .ok (.goto 4, 3) := by decide +kernel
theorem dL_crates_352 : decode cL_crates 352 = .ok (.iconst 0, 1) := by decide +kernel
theorem dL_crates_353 : decode cL_crates 353 = .ok (.ireturn, 1) := by decide +kernel
theorem dL_crates_354 : decode cL_crates 354 = .ok (.aload 4, 2) := by decide +kernel
theorem dL_crates_356 : decode cL_crates 356 = .ok (.iconst 1, 1) := by decide +kernel
theorem dL_crates_357 : decode cL_crates 357 = .ok (.dup2, 1) := by decide +kernel
theorem dL_crates_358 : decode cL_crates 358 = .ok (.iaload, 1) := by decide +kernel
theorem dL_crates_359 : decode cL_crates 359 = .ok (.iload 9, 2) := by decide +kernel
theorem dL_crates_361 : decode cL_crates 361 = .ok (.iadd, 1) := by decide +kernel
theorem dL_crates_362 : decode cL_crates 362 = .ok (.iastore, 1) := by decide +kernel
theorem dL_crates_363 : decode cL_crates 363 = .ok (.lconst 0, 1) := by decide +kernel
theorem dL_crates_364 : decode cL_crates 364 = .ok (.lstore 13, 2) := by decide +kernel
theorem dL_crates_366 : decode cL_crates 366 = .ok (.iload 12, 2) := by decide +kernel
theorem dL_crates_368 : decode cL_crates 368 = .ok (.iload 8, 2) := by decide +kernel
theorem dL_crates_370 : decode cL_crates 370 = .ok (.if_icmp .ne 27, 3) := by decide +kernel
theorem dL_crates_373 : decode cL_crates 373 = .ok (.aload_n 0, 1) := by decide +kernel
theorem dL_crates_374 : decode cL_crates 374 = .ok (.iload_n 2, 1) := by decide +kernel
theorem dL_crates_375 : decode cL_crates 375 = .ok (.invokevirtual 114, 3) := by decide +kernel
theorem dL_crates_378 : decode cL_crates 378 = .ok (.iload 10, 2) := by decide +kernel
theorem dL_crates_380 : decode cL_crates 380 = .ok (.if_icmp .ne 17, 3) := by decide +kernel
theorem dL_crates_383 : decode cL_crates 383 = .ok (.aload_n 0, 1) := by decide +kernel
theorem dL_crates_384 : decode cL_crates 384 = .ok (.iload_n 2, 1) := by decide +kernel
theorem dL_crates_385 : decode cL_crates 385 = .ok (.invokevirtual 87, 3) := by decide +kernel
theorem dL_crates_388 : decode cL_crates 388 = .ok (.iload 7, 2) := by decide +kernel
theorem dL_crates_390 : decode cL_crates 390 = .ok (.if_icmp .ne 7, 3) := by decide +kernel
theorem dL_crates_393 : decode cL_crates 393 = .ok (.iconst 1, 1) := by decide +kernel
theorem dL_crates_394 : decode cL_crates 394 = .ok (.goto 4, 3) := by decide +kernel
theorem dL_crates_397 : decode cL_crates 397 = .ok (.iconst 0, 1) := by decide +kernel
theorem dL_crates_398 : decode cL_crates 398 = .ok (.istore 15, 2) := by decide +kernel
theorem dL_crates_400 : decode cL_crates 400 = .ok (.iconst 0, 1) := by decide +kernel
theorem dL_crates_401 : decode cL_crates 401 = .ok (.istore 16, 2) := by decide +kernel
theorem dL_crates_403 : decode cL_crates 403 = .ok (.iload 16, 2) := by decide +kernel
theorem dL_crates_405 : decode cL_crates 405 = .ok (.aload 4, 2) := by decide +kernel
theorem dL_crates_407 : decode cL_crates 407 = .ok (.iconst 0, 1) := by decide +kernel
theorem dL_crates_408 : decode cL_crates 408 = .ok (.iaload, 1) := by decide +kernel
theorem dL_crates_409 : decode cL_crates 409 = .ok (.if_icmp .ge 65, 3) := by decide +kernel
theorem dL_crates_412 : decode cL_crates 412 = .ok (.lload 13, 2) := by decide +kernel
theorem dL_crates_414 : decode cL_crates 414 = .ok (.aload_n 0, 1) := by decide +kernel
theorem dL_crates_415 : decode cL_crates 415 = .ok (.iload 16, 2) := by decide +kernel
theorem dL_crates_417 : decode cL_crates 417 = .ok (.invokevirtual 65, 3) := by decide +kernel
theorem dL_crates_420 : decode cL_crates 420 = .ok (.iload_n 2, 1) := by decide +kernel
theorem dL_crates_421 : decode cL_crates 421 = .ok (.if_icmp .ne 10, 3) := by decide +kernel
theorem dL_crates_424 : decode cL_crates 424 = .ok (.lconst 1, 1) := by decide +kernel
theorem dL_crates_425 : decode cL_crates 425 = .ok (.iload 16, 2) := by decide +kernel
theorem dL_crates_427 : decode cL_crates 427 = .ok (.lshl, 1) := by decide +kernel
theorem dL_crates_428 : decode cL_crates 428 = .ok (.goto 4, 3) := by decide +kernel
theorem dL_crates_431 : decode cL_crates 431 = .ok (.lconst 0, 1) := by decide +kernel
theorem dL_crates_432 : decode cL_crates 432 = .ok (.lor, 1) := by decide +kernel
theorem dL_crates_433 : decode cL_crates 433 = .ok (.lstore 13, 2) := by decide +kernel
theorem dL_crates_435 : decode cL_crates 435 = .ok (.iload 15, 2) := by decide +kernel
theorem dL_crates_437 : decode cL_crates 437 = .ok (.ifCond .eq 28, 3) := by decide +kernel
theorem dL_crates_440 : decode cL_crates 440 = .ok (.aload_n 0, 1) := by decide +kernel
theorem dL_crates_441 : decode cL_crates 441 = .ok (.iload 16, 2) := by decide +kernel
theorem dL_crates_443 : decode cL_crates 443 = .ok (.invokevirtual 65, 3) := by decide +kernel
theorem dL_crates_446 : decode cL_crates 446 = .ok (.iload_n 2, 1) := by decide +kernel
theorem dL_crates_447 : decode cL_crates 447 = .ok (.if_icmp .ne 14, 3) := by decide +kernel
theorem dL_crates_450 : decode cL_crates 450 = .ok (.aload_n 0, 1) := by decide +kernel
theorem dL_crates_451 : decode cL_crates 451 = .ok (.iload 16, 2) := by decide +kernel
theorem dL_crates_453 : decode cL_crates 453 = .ok (.invokevirtual 62, 3) := by decide +kernel
theorem dL_crates_456 : decode cL_crates 456 = .ok (.iload 10, 2) := by decide +kernel
theorem dL_crates_458 : decode cL_crates 458 = .ok (.if_icmp .ne 7, 3) := by decide +kernel
theorem dL_crates_461 : decode cL_crates 461 = .ok (.iconst 1, 1) := by decide +kernel
theorem dL_crates_462 : decode cL_crates 462 = .ok (.goto 4, 3) := by decide +kernel
theorem dL_crates_465 : decode cL_crates 465 = .ok (.iconst 0, 1) := by decide +kernel
theorem dL_crates_466 : decode cL_crates 466 = .ok (.istore 15, 2) := by decide +kernel
theorem dL_crates_468 : decode cL_crates 468 = .ok (.iinc 16 1, 3) := by decide +kernel
theorem dL_crates_471 : decode cL_crates 471 = .ok (.goto (-68), 3) := by decide +kernel
theorem dL_crates_474 : decode cL_crates 474 = .ok (.iload 15, 2) := by decide +kernel
theorem dL_crates_476 : decode cL_crates 476 = .ok (.ifCond .eq 32, 3) := by decide +kernel
theorem dL_crates_479 : decode cL_crates 479 = .ok (.aload_n 0, 1) := by decide +kernel
theorem dL_crates_480 : decode cL_crates 480 = .ok (.aload 4, 2) := by decide +kernel
theorem dL_crates_482 : decode cL_crates 482 = .ok (.iload_n 2, 1) := by decide +kernel
theorem dL_crates_483 : decode cL_crates 483 = .ok (.invokestatic 135, 3) := by decide +kernel
theorem dL_crates_486 : decode cL_crates 486 = .ok (.iload 9, 2) := by decide +kernel
theorem dL_crates_488 : decode cL_crates 488 = .ok (.if_icmp .ne 20, 3) := by decide +kernel
theorem dL_crates_491 : decode cL_crates 491 = .ok (.aload_n 0, 1) := by decide +kernel
theorem dL_crates_492 : decode cL_crates 492 = .ok (.aload 4, 2) := by decide +kernel
theorem dL_crates_494 : decode cL_crates 494 = .ok (.aload 5, 2) := by decide +kernel
theorem dL_crates_496 : decode cL_crates 496 = .ok (.lload 13, 2) := by decide +kernel
theorem dL_crates_498 : decode cL_crates 498 = .ok (.invokestatic 131, 3) := by decide +kernel
theorem dL_crates_501 : decode cL_crates 501 = .ok (.ifCond .eq 7, 3) := by decide +kernel
theorem dL_crates_504 : decode cL_crates 504 = .ok (.iconst 1, 1) := by decide +kernel
theorem dL_crates_505 : decode cL_crates 505 = .ok (.goto 4, 3) := by decide +kernel
theorem dL_crates_508 : decode cL_crates 508 = .ok (.iconst 0, 1) := by decide +kernel
theorem dL_crates_509 : decode cL_crates 509 = .ok (.ireturn, 1) := by decide +kernel
theorem dL_certifies_0 : decode cL_certifies 0 = .ok (.iconst 0, 1) := by decide +kernel
theorem dL_certifies_1 : decode cL_certifies 1 = .ok (.istore 5, 2) := by decide +kernel
theorem dL_certifies_3 : decode cL_certifies 3 = .ok (.lconst 0, 1) := by decide +kernel
theorem dL_certifies_4 : decode cL_certifies 4 = .ok (.lstore 6, 2) := by decide +kernel
theorem dL_certifies_6 : decode cL_certifies 6 = .ok (.iconst 0, 1) := by decide +kernel
theorem dL_certifies_7 : decode cL_certifies 7 = .ok (.istore 8, 2) := by decide +kernel
theorem dL_certifies_9 : decode cL_certifies 9 = .ok (.iload 8, 2) := by decide +kernel
theorem dL_certifies_11 : decode cL_certifies 11 = .ok (.aload_n 2, 1) := by decide +kernel
theorem dL_certifies_12 : decode cL_certifies 12 = .ok (.iconst 0, 1) := by decide +kernel
theorem dL_certifies_13 : decode cL_certifies 13 = .ok (.iaload, 1) := by decide +kernel
theorem dL_certifies_14 : decode cL_certifies 14 = .ok (.if_icmp .ge 88, 3) := by decide +kernel
theorem dL_certifies_17 : decode cL_certifies 17 = .ok (.aload_n 0, 1) := by decide +kernel
theorem dL_certifies_18 : decode cL_certifies 18 = .ok (.iload 8, 2) := by decide +kernel
theorem dL_certifies_20 : decode cL_certifies 20 = .ok (.invokevirtual 62, 3) := by decide +kernel
theorem dL_certifies_23 : decode cL_certifies 23 = .ok (.iload_n 1, 1) := by decide +kernel
theorem dL_certifies_24 : decode cL_certifies 24 = .ok (.if_icmp .ne 36, 3) := by decide +kernel
theorem dL_certifies_27 : decode cL_certifies 27 = .ok (.aload_n 0, 1) := by decide +kernel
theorem dL_certifies_28 : decode cL_certifies 28 = .ok (.iload 8, 2) := by decide +kernel
theorem dL_certifies_30 : decode cL_certifies 30 = .ok (.invokevirtual 74, 3) := by decide +kernel
theorem dL_certifies_33 : decode cL_certifies 33 = .ok (.ifCond .eq 27, 3) := by decide +kernel
theorem dL_certifies_36 : decode cL_certifies 36 = .ok (.aload 4, 2) := by decide +kernel
theorem dL_certifies_38 : decode cL_certifies 38 = .ok (.iload 8, 2) := by decide +kernel
theorem dL_certifies_40 : decode cL_certifies 40 = .ok (.invokestatic 90, 3) := by decide +kernel
theorem dL_certifies_43 : decode cL_certifies 43 = .ok (.ifCond .ne 17, 3) := by decide +kernel
theorem dL_certifies_46 : decode cL_certifies 46 = .ok (.aload_n 0, 1) := by decide +kernel
theorem dL_certifies_47 : decode cL_certifies 47 = .ok (.iload 8, 2) := by decide +kernel
theorem dL_certifies_49 : decode cL_certifies 49 = .ok (.invokevirtual 78, 3) := by decide +kernel
theorem dL_certifies_52 : decode cL_certifies 52 = .ok (.iconst (-1), 1) := by decide +kernel
theorem dL_certifies_53 : decode cL_certifies 53 = .ok (.if_icmp .ne 7, 3) := by decide +kernel
theorem dL_certifies_56 : decode cL_certifies 56 = .ok (.iconst 1, 1) := by decide +kernel
theorem dL_certifies_57 : decode cL_certifies 57 = .ok (.goto 4, 3) := by decide +kernel
theorem dL_certifies_60 : decode cL_certifies 60 = .ok (.iconst 0, 1) := by decide +kernel
theorem dL_certifies_61 : decode cL_certifies 61 = .ok (.istore 9, 2) := by decide +kernel
theorem dL_certifies_63 : decode cL_certifies 63 = .ok (.iload 5, 2) := by decide +kernel
theorem dL_certifies_65 : decode cL_certifies 65 = .ok (.iload 9, 2) := by decide +kernel
theorem dL_certifies_67 : decode cL_certifies 67 = .ok (.ifCond .eq 7, 3) := by decide +kernel
theorem dL_certifies_70 : decode cL_certifies 70 = .ok (.iconst 1, 1) := by decide +kernel
theorem dL_certifies_71 : decode cL_certifies 71 = .ok (.goto 4, 3) := by decide +kernel
theorem dL_certifies_74 : decode cL_certifies 74 = .ok (.iconst 0, 1) := by decide +kernel
theorem dL_certifies_75 : decode cL_certifies 75 = .ok (.iadd, 1) := by decide +kernel
theorem dL_certifies_76 : decode cL_certifies 76 = .ok (.istore 5, 2) := by decide +kernel
theorem dL_certifies_78 : decode cL_certifies 78 = .ok (.lload 6, 2) := by decide +kernel
theorem dL_certifies_80 : decode cL_certifies 80 = .ok (.iload 9, 2) := by decide +kernel
theorem dL_certifies_82 : decode cL_certifies 82 = .ok (.ifCond .eq 10, 3) := by decide +kernel
theorem dL_certifies_85 : decode cL_certifies 85 = .ok (.lconst 1, 1) := by decide +kernel
theorem dL_certifies_86 : decode cL_certifies 86 = .ok (.iload 8, 2) := by decide +kernel
theorem dL_certifies_88 : decode cL_certifies 88 = .ok (.lshl, 1) := by decide +kernel
theorem dL_certifies_89 : decode cL_certifies 89 = .ok (.goto 4, 3) := by decide +kernel
theorem dL_certifies_92 : decode cL_certifies 92 = .ok (.lconst 0, 1) := by decide +kernel
theorem dL_certifies_93 : decode cL_certifies 93 = .ok (.lor, 1) := by decide +kernel
theorem dL_certifies_94 : decode cL_certifies 94 = .ok (.lstore 6, 2) := by decide +kernel
theorem dL_certifies_96 : decode cL_certifies 96 = .ok (.iinc 8 1, 3) := by decide +kernel
theorem dL_certifies_99 : decode cL_certifies 99 = .ok (.goto (-90), 3) := by decide +kernel
theorem dL_certifies_102 : decode cL_certifies 102 = .ok (.aload_n 0, 1) := by decide +kernel
theorem dL_certifies_103 : decode cL_certifies 103 = .ok (.bipush 12, 2) := by decide +kernel
theorem dL_certifies_105 : decode cL_certifies 105 = .ok (.iload_n 1, 1) := by decide +kernel
theorem dL_certifies_106 : decode cL_certifies 106 = .ok (.iconst 0, 1) := by decide +kernel
theorem dL_certifies_107 : decode cL_certifies 107 = .ok (.iconst 0, 1) := by decide +kernel
theorem dL_certifies_108 : decode cL_certifies 108 = .ok (.invokestatic 127, 3) := by decide +kernel
theorem dL_certifies_111 : decode cL_certifies 111 = .ok (.istore 8, 2) := by decide +kernel
theorem dL_certifies_113 : decode cL_certifies 113 = .ok (.iload 8, 2) := by decide +kernel
theorem dL_certifies_115 : decode cL_certifies 115 = .ok (.iload 5, 2) := by decide +kernel
theorem dL_certifies_117 : decode cL_certifies 117 = .ok (.ifCond .ne 8, 3) := by decide +kernel
theorem dL_certifies_120 : decode cL_certifies 120 = .ok (.bipush (-10), 2) := by decide +kernel
theorem dL_certifies_122 : decode cL_certifies 122 = .ok (.goto 5, 3) := by decide +kernel
theorem dL_certifies_125 : decode cL_certifies 125 = .ok (.iload 5, 2) := by decide +kernel
theorem dL_certifies_127 : decode cL_certifies 127 = .ok (.if_icmp .ne 18, 3) := by decide +kernel
theorem dL_certifies_130 : decode cL_certifies 130 = .ok (.aload_n 0, 1) := by decide +kernel
theorem dL_certifies_131 : decode cL_certifies 131 = .ok (.aload_n 2, 1) := by decide +kernel
theorem dL_certifies_132 : decode cL_certifies 132 = .ok (.aload_n 3, 1) := by decide +kernel
theorem dL_certifies_133 : decode cL_certifies 133 = .ok (.lload 6, 2) := by decide +kernel
theorem dL_certifies_135 : decode cL_certifies 135 = .ok (.invokestatic 131, 3) := by decide +kernel
theorem dL_certifies_138 : decode cL_certifies 138 = .ok (.ifCond .eq 7, 3) := by decide +kernel
theorem dL_certifies_141 : decode cL_certifies 141 = .ok (.iconst 1, 1) := by decide +kernel
theorem dL_certifies_142 : decode cL_certifies 142 = .ok (.goto 4, 3) := by decide +kernel
theorem dL_certifies_145 : decode cL_certifies 145 = .ok (.iconst 0, 1) := by decide +kernel
theorem dL_certifies_146 : decode cL_certifies 146 = .ok (.istore 9, 2) := by decide +kernel
theorem dL_certifies_148 : decode cL_certifies 148 = .ok (.iconst 0, 1) := by decide +kernel
theorem dL_certifies_149 : decode cL_certifies 149 = .ok (.istore 10, 2) := by decide +kernel
theorem dL_certifies_151 : decode cL_certifies 151 = .ok (.iload 10, 2) := by decide +kernel
theorem dL_certifies_153 : decode cL_certifies 153 = .ok (.aload_n 2, 1) := by decide +kernel
theorem dL_certifies_154 : decode cL_certifies 154 = .ok (.iconst 0, 1) := by decide +kernel
theorem dL_certifies_155 : decode cL_certifies 155 = .ok (.iaload, 1) := by decide +kernel
theorem dL_certifies_156 : decode cL_certifies 156 = .ok (.if_icmp .ge 45, 3) := by decide +kernel
theorem dL_certifies_159 : decode cL_certifies 159 = .ok (.iload 9, 2) := by decide +kernel
theorem dL_certifies_161 : decode cL_certifies 161 = .ok (.ifCond .eq 40, 3) := by decide +kernel
theorem dL_certifies_164 : decode cL_certifies 164 = .ok (.lload 6, 2) := by decide +kernel
theorem dL_certifies_166 : decode cL_certifies 166 = .ok (.iload 10, 2) := by decide +kernel
theorem dL_certifies_168 : decode cL_certifies 168 = .ok (.lshr, 1) := by decide +kernel
theorem dL_certifies_169 : decode cL_certifies 169 = .ok (.lconst 1, 1) := by decide +kernel
theorem dL_certifies_170 : decode cL_certifies 170 = .ok (.land, 1) := by decide +kernel
theorem dL_certifies_171 : decode cL_certifies 171 = .ok (.lconst 0, 1) := by decide +kernel
theorem dL_certifies_172 : decode cL_certifies 172 = .ok (.lcmp, 1) := by decide +kernel
theorem dL_certifies_173 : decode cL_certifies 173 = .ok (.ifCond .eq 15, 3) := by decide +kernel
theorem dL_certifies_176 : decode cL_certifies 176 = .ok (.aload_n 0, 1) := by decide +kernel
theorem dL_certifies_177 : decode cL_certifies 177 = .ok (.iload 10, 2) := by decide +kernel
theorem dL_certifies_179 : decode cL_certifies 179 = .ok (.invokevirtual 78, 3) := by decide +kernel
theorem dL_certifies_182 : decode cL_certifies 182 = .ok (.aload_n 2, 1) := by decide +kernel
theorem dL_certifies_183 : decode cL_certifies 183 = .ok (.iconst 2, 1) := by decide +kernel
theorem dL_certifies_184 : decode cL_certifies 184 = .ok (.iaload, 1) := by decide +kernel
theorem dL_certifies_185 : decode cL_certifies 185 = .ok (.if_icmp .ne 7, 3) := by decide +kernel
theorem dL_certifies_188 : decode cL_certifies 188 = .ok (.iconst 1, 1) := by decide +kernel
theorem dL_certifies_189 : decode cL_certifies 189 = .ok (.goto 4, 3) := by decide +kernel
theorem dL_certifies_192 : decode cL_certifies 192 = .ok (.iconst 0, 1) := by decide +kernel
theorem dL_certifies_193 : decode cL_certifies 193 = .ok (.istore 9, 2) := by decide +kernel
theorem dL_certifies_195 : decode cL_certifies 195 = .ok (.iinc 10 1, 3) := by decide +kernel
theorem dL_certifies_198 : decode cL_certifies 198 = .ok (.goto (-47), 3) := by decide +kernel
theorem dL_certifies_201 : decode cL_certifies 201 = .ok (.aload_n 2, 1) := by decide +kernel
theorem dL_certifies_202 : decode cL_certifies 202 = .ok (.iconst 2, 1) := by decide +kernel
theorem dL_certifies_203 : decode cL_certifies 203 = .ok (.dup2, 1) := by decide +kernel
theorem dL_certifies_204 : decode cL_certifies 204 = .ok (.iaload, 1) := by decide +kernel
theorem dL_certifies_205 : decode cL_certifies 205 = .ok (.iload 5, 2) := by decide +kernel
theorem dL_certifies_207 : decode cL_certifies 207 = .ok (.ifCond .ne 7, 3) := by decide +kernel
theorem dL_certifies_210 : decode cL_certifies 210 = .ok (.iconst 0, 1) := by decide +kernel
theorem dL_certifies_211 : decode cL_certifies 211 = .ok (.goto 4, 3) := by decide +kernel
theorem dL_certifies_214 : decode cL_certifies 214 = .ok (.iconst 1, 1) := by decide +kernel
theorem dL_certifies_215 : decode cL_certifies 215 = .ok (.iadd, 1) := by decide +kernel
theorem dL_certifies_216 : decode cL_certifies 216 = .ok (.iastore, 1) := by decide +kernel
theorem dL_certifies_217 : decode cL_certifies 217 = .ok (.iload 9, 2) := by decide +kernel
theorem dL_certifies_219 : decode cL_certifies 219 = .ok (.ireturn, 1) := by decide +kernel
theorem dL_step_0 : decode cL_step 0 = .ok (.iload_n 1, 1) := by decide +kernel
theorem dL_step_1 : decode cL_step 1 = .ok (.iconst 4, 1) := by decide +kernel
theorem dL_step_2 : decode cL_step 2 = .ok (.if_icmp .lt 10, 3) := by decide +kernel
theorem dL_step_5 : decode cL_step 5 = .ok (.aload 4, 2) := by decide +kernel
theorem dL_step_7 : decode cL_step 7 = .ok (.iconst 0, 1) := by decide +kernel
theorem dL_step_8 : decode cL_step 8 = .ok (.iaload, 1) := by decide +kernel
theorem dL_step_9 : decode cL_step 9 = .ok (.ifCond .ne 121, 3) := by decide +kernel
theorem dL_step_12 : decode cL_step 12 = .ok (.aload 4, 2) := by decide +kernel
theorem dL_step_14 : decode cL_step 14 = .ok (.iconst 0, 1) := by decide +kernel
theorem dL_step_15 : decode cL_step 15 = .ok (.iaload, 1) := by decide +kernel
theorem dL_step_16 : decode cL_step 16 = .ok (.bipush 60, 2) := by decide +kernel
theorem dL_step_18 : decode cL_step 18 = .ok (.if_icmp .ne 5, 3) := by decide +kernel
theorem dL_step_21 : decode cL_step 21 = .ok (.iconst 1, 1) := by decide +kernel
theorem dL_step_22 : decode cL_step 22 = .ok (.ireturn, 1) := by decide +kernel
theorem dL_step_23 : decode cL_step 23 = .ok (.aload 6, 2) := by decide +kernel
theorem dL_step_25 : decode cL_step 25 = .ok (.aload 4, 2) := by decide +kernel
theorem dL_step_27 : decode cL_step 27 = .ok (.iconst 0, 1) := by decide +kernel
theorem dL_step_28 : decode cL_step 28 = .ok (.iaload, 1) := by decide +kernel
theorem dL_step_29 : decode cL_step 29 = .ok (.iload_n 2, 1) := by decide +kernel
theorem dL_step_30 : decode cL_step 30 = .ok (.iconst 3, 1) := by decide +kernel
theorem dL_step_31 : decode cL_step 31 = .ok (.irem, 1) := by decide +kernel
theorem dL_step_32 : decode cL_step 32 = .ok (.iload_n 2, 1) := by decide +kernel
theorem dL_step_33 : decode cL_step 33 = .ok (.iconst 3, 1) := by decide +kernel
theorem dL_step_34 : decode cL_step 34 = .ok (.idiv, 1) := by decide +kernel
theorem dL_step_35 : decode cL_step 35 = .ok (.iconst 4, 1) := by decide +kernel
theorem dL_step_36 : decode cL_step 36 = .ok (.irem, 1) := by decide +kernel
theorem dL_step_37 : decode cL_step 37 = .ok (.iconst 2, 1) := by decide +kernel
theorem dL_step_38 : decode cL_step 38 = .ok (.ishl, 1) := by decide +kernel
theorem dL_step_39 : decode cL_step 39 = .ok (.ior, 1) := by decide +kernel
theorem dL_step_40 : decode cL_step 40 = .ok (.iastore, 1) := by decide +kernel
theorem dL_step_41 : decode cL_step 41 = .ok (.aload 4, 2) := by decide +kernel
theorem dL_step_43 : decode cL_step 43 = .ok (.iconst 0, 1) := by decide +kernel
theorem dL_step_44 : decode cL_step 44 = .ok (.dup2, 1) := by decide +kernel
theorem dL_step_45 : decode cL_step 45 = .ok (.iaload, 1) := by decide +kernel
theorem dL_step_46 : decode cL_step 46 = .ok (.iconst 1, 1) := by decide +kernel
theorem dL_step_47 : decode cL_step 47 = .ok (.iadd, 1) := by decide +kernel
theorem dL_step_48 : decode cL_step 48 = .ok (.iastore, 1) := by decide +kernel
theorem dL_step_49 : decode cL_step 49 = .ok (.aload 4, 2) := by decide +kernel
theorem dL_step_51 : decode cL_step 51 = .ok (.iconst 1, 1) := by decide +kernel
theorem dL_step_52 : decode cL_step 52 = .ok (.dup2, 1) := by decide +kernel
theorem dL_step_53 : decode cL_step 53 = .ok (.iaload, 1) := by decide +kernel
theorem dL_step_54 : decode cL_step 54 = .ok (.iconst 1, 1) := by decide +kernel
theorem dL_step_55 : decode cL_step 55 = .ok (.iadd, 1) := by decide +kernel
theorem dL_step_56 : decode cL_step 56 = .ok (.iastore, 1) := by decide +kernel
theorem dL_step_57 : decode cL_step 57 = .ok (.aload_n 0, 1) := by decide +kernel
theorem dL_step_58 : decode cL_step 58 = .ok (.iload_n 2, 1) := by decide +kernel
theorem dL_step_59 : decode cL_step 59 = .ok (.iconst 3, 1) := by decide +kernel
theorem dL_step_60 : decode cL_step 60 = .ok (.irem, 1) := by decide +kernel
theorem dL_step_61 : decode cL_step 61 = .ok (.iload_n 2, 1) := by decide +kernel
theorem dL_step_62 : decode cL_step 62 = .ok (.iconst 3, 1) := by decide +kernel
theorem dL_step_63 : decode cL_step 63 = .ok (.idiv, 1) := by decide +kernel
theorem dL_step_64 : decode cL_step 64 = .ok (.iconst 4, 1) := by decide +kernel
theorem dL_step_65 : decode cL_step 65 = .ok (.irem, 1) := by decide +kernel
theorem dL_step_66 : decode cL_step 66 = .ok (.iload_n 3, 1) := by decide +kernel
theorem dL_step_67 : decode cL_step 67 = .ok (.iconst 3, 1) := by decide +kernel
theorem dL_step_68 : decode cL_step 68 = .ok (.irem, 1) := by decide +kernel
theorem dL_step_69 : decode cL_step 69 = .ok (.invokevirtual 139, 3) := by decide +kernel
theorem dL_step_72 : decode cL_step 72 = .ok (.aload 4, 2) := by decide +kernel
theorem dL_step_74 : decode cL_step 74 = .ok (.iconst 0, 1) := by decide +kernel
theorem dL_step_75 : decode cL_step 75 = .ok (.iaload, 1) := by decide +kernel
theorem dL_step_76 : decode cL_step 76 = .ok (.iconst 1, 1) := by decide +kernel
theorem dL_step_77 : decode cL_step 77 = .ok (.isub, 1) := by decide +kernel
theorem dL_step_78 : decode cL_step 78 = .ok (.if_icmp .ne 50, 3) := by decide +kernel
theorem dL_step_81 : decode cL_step 81 = .ok (.aload_n 0, 1) := by decide +kernel
theorem dL_step_82 : decode cL_step 82 = .ok (.aload 4, 2) := by decide +kernel
theorem dL_step_84 : decode cL_step 84 = .ok (.iconst 0, 1) := by decide +kernel
theorem dL_step_85 : decode cL_step 85 = .ok (.iaload, 1) := by decide +kernel
theorem dL_step_86 : decode cL_step 86 = .ok (.iconst 1, 1) := by decide +kernel
theorem dL_step_87 : decode cL_step 87 = .ok (.isub, 1) := by decide +kernel
theorem dL_step_88 : decode cL_step 88 = .ok (.invokevirtual 62, 3) := by decide +kernel
theorem dL_step_91 : decode cL_step 91 = .ok (.iload_n 3, 1) := by decide +kernel
theorem dL_step_92 : decode cL_step 92 = .ok (.iconst 3, 1) := by decide +kernel
theorem dL_step_93 : decode cL_step 93 = .ok (.irem, 1) := by decide +kernel
theorem dL_step_94 : decode cL_step 94 = .ok (.if_icmp .ne 34, 3) := by decide +kernel
theorem dL_step_97 : decode cL_step 97 = .ok (.aload_n 0, 1) := by decide +kernel
theorem dL_step_98 : decode cL_step 98 = .ok (.aload 4, 2) := by decide +kernel
theorem dL_step_100 : decode cL_step 100 = .ok (.iconst 0, 1) := by decide +kernel
theorem dL_step_101 : decode cL_step 101 = .ok (.iaload, 1) := by decide +kernel
theorem dL_step_102 : decode cL_step 102 = .ok (.iconst 1, 1) := by decide +kernel
theorem dL_step_103 : decode cL_step 103 = .ok (.isub, 1) := by decide +kernel
theorem dL_step_104 : decode cL_step 104 = .ok (.invokevirtual 68, 3) := by decide +kernel
theorem dL_step_107 : decode cL_step 107 = .ok (.ifCond .ne 21, 3) := by decide +kernel
theorem dL_step_110 : decode cL_step 110 = .ok (.aload_n 0, 1) := by decide +kernel
theorem dL_step_111 : decode cL_step 111 = .ok (.aload 4, 2) := by decide +kernel
theorem dL_step_113 : decode cL_step 113 = .ok (.iconst 0, 1) := by decide +kernel
theorem dL_step_114 : decode cL_step 114 = .ok (.iaload, 1) := by decide +kernel
theorem dL_step_115 : decode cL_step 115 = .ok (.iconst 1, 1) := by decide +kernel
theorem dL_step_116 : decode cL_step 116 = .ok (.isub, 1) := by decide +kernel
theorem dL_step_117 : decode cL_step 117 = .ok (.invokevirtual 65, 3) := by decide +kernel
theorem dL_step_120 : decode cL_step 120 = .ok (.iconst (-1), 1) := by decide +kernel
theorem dL_step_121 : decode cL_step 121 = .ok (.if_icmp .ne 7, 3) := by decide +kernel
theorem dL_step_124 : decode cL_step 124 = .ok (.iconst 1, 1) := by decide +kernel
theorem dL_step_125 : decode cL_step 125 = .ok (.goto 4, 3) := by decide +kernel
theorem dL_step_128 : decode cL_step 128 = .ok (.iconst 0, 1) := by decide +kernel
theorem dL_step_129 : decode cL_step 129 = .ok (.ireturn, 1) := by decide +kernel
theorem dL_step_130 : decode cL_step 130 = .ok (.aload_n 0, 1) := by decide +kernel
theorem dL_step_131 : decode cL_step 131 = .ok (.aload 4, 2) := by decide +kernel
theorem dL_step_133 : decode cL_step 133 = .ok (.aload 5, 2) := by decide +kernel
theorem dL_step_135 : decode cL_step 135 = .ok (.invokestatic 142, 3) := by decide +kernel
theorem dL_step_138 : decode cL_step 138 = .ok (.iload_n 2, 1) := by decide +kernel
theorem dL_step_139 : decode cL_step 139 = .ok (.aload 4, 2) := by decide +kernel
theorem dL_step_141 : decode cL_step 141 = .ok (.iconst 0, 1) := by decide +kernel
theorem dL_step_142 : decode cL_step 142 = .ok (.iaload, 1) := by decide +kernel
theorem dL_step_143 : decode cL_step 143 = .ok (.irem, 1) := by decide +kernel
theorem dL_step_144 : decode cL_step 144 = .ok (.istore 10, 2) := by decide +kernel
theorem dL_step_146 : decode cL_step 146 = .ok (.iload_n 1, 1) := by decide +kernel
theorem dL_step_147 : decode cL_step 147 = .ok (.bipush 7, 2) := by decide +kernel
theorem dL_step_149 : decode cL_step 149 = .ok (.if_icmp .ge 42, 3) := by decide +kernel
theorem dL_step_152 : decode cL_step 152 = .ok (.aload_n 0, 1) := by decide +kernel
theorem dL_step_153 : decode cL_step 153 = .ok (.aload_n 0, 1) := by decide +kernel
theorem dL_step_154 : decode cL_step 154 = .ok (.iload 10, 2) := by decide +kernel
theorem dL_step_156 : decode cL_step 156 = .ok (.invokevirtual 71, 3) := by decide +kernel
theorem dL_step_159 : decode cL_step 159 = .ok (.ifCond .lt 13, 3) := by decide +kernel
theorem dL_step_162 : decode cL_step 162 = .ok (.iload_n 3, 1) := by decide +kernel
theorem dL_step_163 : decode cL_step 163 = .ok (.iconst 4, 1) := by decide +kernel
theorem dL_step_164 : decode cL_step 164 = .ok (.irem, 1) := by decide +kernel
theorem dL_step_165 : decode cL_step 165 = .ok (.ifCond .le 7, 3) := by decide +kernel
theorem dL_step_168 : decode cL_step 168 = .ok (.iconst 1, 1) := by decide +kernel
theorem dL_step_169 : decode cL_step 169 = .ok (.goto 4, 3) := by decide +kernel
theorem dL_step_172 : decode cL_step 172 = .ok (.iconst 0, 1) := by decide +kernel
theorem dL_step_173 : decode cL_step 173 = .ok (.iload 10, 2) := by decide +kernel
theorem dL_step_175 : decode cL_step 175 = .ok (.iload_n 3, 1) := by decide +kernel
theorem dL_step_176 : decode cL_step 176 = .ok (.iconst 4, 1) := by decide +kernel
theorem dL_step_177 : decode cL_step 177 = .ok (.idiv, 1) := by decide +kernel
theorem dL_step_178 : decode cL_step 178 = .ok (.bipush 8, 2) := by decide +kernel
theorem dL_step_180 : decode cL_step 180 = .ok (.irem, 1) := by decide +kernel
theorem dL_step_181 : decode cL_step 181 = .ok (.aload 4, 2) := by decide +kernel
theorem dL_step_183 : decode cL_step 183 = .ok (.aload 5, 2) := by decide +kernel
theorem dL_step_185 : decode cL_step 185 = .ok (.aload 9, 2) := by decide +kernel
theorem dL_step_187 : decode cL_step 187 = .ok (.invokestatic 146, 3) := by decide +kernel
theorem dL_step_190 : decode cL_step 190 = .ok (.ireturn, 1) := by decide +kernel
theorem dL_step_191 : decode cL_step 191 = .ok (.iload_n 1, 1) := by decide +kernel
theorem dL_step_192 : decode cL_step 192 = .ok (.bipush 11, 2) := by decide +kernel
theorem dL_step_194 : decode cL_step 194 = .ok (.if_icmp .ge 30, 3) := by decide +kernel
theorem dL_step_197 : decode cL_step 197 = .ok (.aload_n 0, 1) := by decide +kernel
theorem dL_step_198 : decode cL_step 198 = .ok (.iload_n 1, 1) := by decide +kernel
theorem dL_step_199 : decode cL_step 199 = .ok (.bipush 10, 2) := by decide +kernel
theorem dL_step_201 : decode cL_step 201 = .ok (.if_icmp .ge 7, 3) := by decide +kernel
theorem dL_step_204 : decode cL_step 204 = .ok (.iconst 2, 1) := by decide +kernel
theorem dL_step_205 : decode cL_step 205 = .ok (.goto 4, 3) := by decide +kernel
theorem dL_step_208 : decode cL_step 208 = .ok (.iconst 3, 1) := by decide +kernel
theorem dL_step_209 : decode cL_step 209 = .ok (.iload 10, 2) := by decide +kernel
theorem dL_step_211 : decode cL_step 211 = .ok (.iload_n 3, 1) := by decide +kernel
theorem dL_step_212 : decode cL_step 212 = .ok (.iconst 4, 1) := by decide +kernel
theorem dL_step_213 : decode cL_step 213 = .ok (.irem, 1) := by decide +kernel
theorem dL_step_214 : decode cL_step 214 = .ok (.aload 4, 2) := by decide +kernel
theorem dL_step_216 : decode cL_step 216 = .ok (.aload 5, 2) := by decide +kernel
theorem dL_step_218 : decode cL_step 218 = .ok (.aload 9, 2) := by decide +kernel
theorem dL_step_220 : decode cL_step 220 = .ok (.invokestatic 150, 3) := by decide +kernel
theorem dL_step_223 : decode cL_step 223 = .ok (.ireturn, 1) := by decide +kernel
theorem dL_step_224 : decode cL_step 224 = .ok (.iload_n 1, 1) := by decide +kernel
theorem dL_step_225 : decode cL_step 225 = .ok (.bipush 17, 2) := by decide +kernel
theorem dL_step_227 : decode cL_step 227 = .ok (.if_icmp .ge 86, 3) := by decide +kernel
theorem dL_step_230 : decode cL_step 230 = .ok (.iload_n 3, 1) := by decide +kernel
theorem dL_step_231 : decode cL_step 231 = .ok (.iconst 3, 1) := by decide +kernel
theorem dL_step_232 : decode cL_step 232 = .ok (.irem, 1) := by decide +kernel
theorem dL_step_233 : decode cL_step 233 = .ok (.ifCond .le 13, 3) := by decide +kernel
theorem dL_step_236 : decode cL_step 236 = .ok (.aload 6, 2) := by decide +kernel
theorem dL_step_238 : decode cL_step 238 = .ok (.iload 10, 2) := by decide +kernel
theorem dL_step_240 : decode cL_step 240 = .ok (.iaload, 1) := by decide +kernel
theorem dL_step_241 : decode cL_step 241 = .ok (.iconst 3, 1) := by decide +kernel
theorem dL_step_242 : decode cL_step 242 = .ok (.iand, 1) := by decide +kernel
theorem dL_step_243 : decode cL_step 243 = .ok (.goto 8, 3) := by decide +kernel
theorem dL_step_246 : decode cL_step 246 = .ok (.iload_n 3, 1) := by decide +kernel
theorem dL_step_247 : decode cL_step 247 = .ok (.iconst 3, 1) := by decide +kernel
theorem dL_step_248 : decode cL_step 248 = .ok (.idiv, 1) := by decide +kernel
theorem dL_step_249 : decode cL_step 249 = .ok (.iconst 3, 1) := by decide +kernel
theorem dL_step_250 : decode cL_step 250 = .ok (.irem, 1) := by decide +kernel
theorem dL_step_251 : decode cL_step 251 = .ok (.istore 11, 2) := by decide +kernel
theorem dL_step_253 : decode cL_step 253 = .ok (.aload_n 0, 1) := by decide +kernel
theorem dL_step_254 : decode cL_step 254 = .ok (.iload_n 1, 1) := by decide +kernel
theorem dL_step_255 : decode cL_step 255 = .ok (.bipush 14, 2) := by decide +kernel
theorem dL_step_257 : decode cL_step 257 = .ok (.if_icmp .ge 7, 3) := by decide +kernel
theorem dL_step_260 : decode cL_step 260 = .ok (.iconst 4, 1) := by decide +kernel
theorem dL_step_261 : decode cL_step 261 = .ok (.goto 15, 3) := by decide +kernel
theorem dL_step_264 : decode cL_step 264 = .ok (.iload_n 1, 1) := by decide +kernel
theorem dL_step_265 : decode cL_step 265 = .ok (.bipush 14, 2) := by decide +kernel
theorem dL_step_267 : decode cL_step 267 = .ok (.if_icmp .ne 7, 3) := by decide +kernel
theorem dL_step_270 : decode cL_step 270 = .ok (.iconst 5, 1) := by decide +kernel
theorem dL_step_271 : decode cL_step 271 = .ok (.goto 5, 3) := by decide +kernel
theorem dL_step_274 : decode cL_step 274 = .ok (.bipush 6, 2) := by decide +kernel
theorem dL_step_276 : decode cL_step 276 = .ok (.iload 10, 2) := by decide +kernel
theorem dL_step_278 : decode cL_step 278 = .ok (.iload_n 1, 1) := by decide +kernel
theorem dL_step_279 : decode cL_step 279 = .ok (.bipush 14, 2) := by decide +kernel
theorem dL_step_281 : decode cL_step 281 = .ok (.if_icmp .ge 8, 3) := by decide +kernel
theorem dL_step_284 : decode cL_step 284 = .ok (.iload 11, 2) := by decide +kernel
theorem dL_step_286 : decode cL_step 286 = .ok (.goto 6, 3) := by decide +kernel
theorem dL_step_289 : decode cL_step 289 = .ok (.iload_n 3, 1) := by decide +kernel
theorem dL_step_290 : decode cL_step 290 = .ok (.iconst 3, 1) := by decide +kernel
theorem dL_step_291 : decode cL_step 291 = .ok (.idiv, 1) := by decide +kernel
theorem dL_step_292 : decode cL_step 292 = .ok (.iload_n 3, 1) := by decide +kernel
theorem dL_step_293 : decode cL_step 293 = .ok (.bipush 9, 2) := by decide +kernel
theorem dL_step_295 : decode cL_step 295 = .ok (.idiv, 1) := by decide +kernel
theorem dL_step_296 : decode cL_step 296 = .ok (.bipush 8, 2) := by decide +kernel
theorem dL_step_298 : decode cL_step 298 = .ok (.irem, 1) := by decide +kernel
theorem dL_step_299 : decode cL_step 299 = .ok (.aload 4, 2) := by decide +kernel
theorem dL_step_301 : decode cL_step 301 = .ok (.aload 5, 2) := by decide +kernel
theorem dL_step_303 : decode cL_step 303 = .ok (.aload 6, 2) := by decide +kernel
theorem dL_step_305 : decode cL_step 305 = .ok (.aload 9, 2) := by decide +kernel
theorem dL_step_307 : decode cL_step 307 = .ok (.aload 8, 2) := by decide +kernel
theorem dL_step_309 : decode cL_step 309 = .ok (.invokestatic 153, 3) := by decide +kernel
theorem dL_step_312 : decode cL_step 312 = .ok (.ireturn, 1) := by decide +kernel
theorem dL_step_313 : decode cL_step 313 = .ok (.iload_n 1, 1) := by decide +kernel
theorem dL_step_314 : decode cL_step 314 = .ok (.bipush 19, 2) := by decide +kernel
theorem dL_step_316 : decode cL_step 316 = .ok (.if_icmp .ge 50, 3) := by decide +kernel
theorem dL_step_319 : decode cL_step 319 = .ok (.aload_n 0, 1) := by decide +kernel
theorem dL_step_320 : decode cL_step 320 = .ok (.aload 9, 2) := by decide +kernel
theorem dL_step_322 : decode cL_step 322 = .ok (.iload 10, 2) := by decide +kernel
theorem dL_step_324 : decode cL_step 324 = .ok (.invokestatic 90, 3) := by decide +kernel
theorem dL_step_327 : decode cL_step 327 = .ok (.ifCond .eq 14, 3) := by decide +kernel
theorem dL_step_330 : decode cL_step 330 = .ok (.iload_n 3, 1) := by decide +kernel
theorem dL_step_331 : decode cL_step 331 = .ok (.iconst 3, 1) := by decide +kernel
theorem dL_step_332 : decode cL_step 332 = .ok (.irem, 1) := by decide +kernel
theorem dL_step_333 : decode cL_step 333 = .ok (.ifCond .le 8, 3) := by decide +kernel
theorem dL_step_336 : decode cL_step 336 = .ok (.bipush 8, 2) := by decide +kernel
theorem dL_step_338 : decode cL_step 338 = .ok (.goto 16, 3) := by decide +kernel
theorem dL_step_341 : decode cL_step 341 = .ok (.iload_n 3, 1) := by decide +kernel
theorem dL_step_342 : decode cL_step 342 = .ok (.iconst 2, 1) := by decide +kernel
theorem dL_step_343 : decode cL_step 343 = .ok (.irem, 1) := by decide +kernel
theorem dL_step_344 : decode cL_step 344 = .ok (.ifCond .ne 8, 3) := by decide +kernel
theorem dL_step_347 : decode cL_step 347 = .ok (.bipush 7, 2) := by decide +kernel
theorem dL_step_349 : decode cL_step 349 = .ok (.goto 5, 3) := by decide +kernel
theorem dL_step_352 : decode cL_step 352 = .ok (.bipush 8, 2) := by decide +kernel
theorem dL_step_354 : decode cL_step 354 = .ok (.iload 10, 2) := by decide +kernel
theorem dL_step_356 : decode cL_step 356 = .ok (.aload 4, 2) := by decide +kernel
theorem dL_step_358 : decode cL_step 358 = .ok (.aload 5, 2) := by decide +kernel
theorem dL_step_360 : decode cL_step 360 = .ok (.aload 9, 2) := by decide +kernel
theorem dL_step_362 : decode cL_step 362 = .ok (.invokestatic 157, 3) := by decide +kernel
theorem dL_step_365 : decode cL_step 365 = .ok (.ireturn, 1) := by decide +kernel
theorem dL_step_366 : decode cL_step 366 = .ok (.iload_n 1, 1) := by decide +kernel
theorem dL_step_367 : decode cL_step 367 = .ok (.bipush 23, 2) := by decide +kernel
theorem dL_step_369 : decode cL_step 369 = .ok (.if_icmp .ge 71, 3) := by decide +kernel
theorem dL_step_372 : decode cL_step 372 = .ok (.iload_n 2, 1) := by decide +kernel
theorem dL_step_373 : decode cL_step 373 = .ok (.bipush 60, 2) := by decide +kernel
theorem dL_step_375 : decode cL_step 375 = .ok (.idiv, 1) := by decide +kernel
theorem dL_step_376 : decode cL_step 376 = .ok (.iconst 4, 1) := by decide +kernel
theorem dL_step_377 : decode cL_step 377 = .ok (.irem, 1) := by decide +kernel
theorem dL_step_378 : decode cL_step 378 = .ok (.istore 11, 2) := by decide +kernel
theorem dL_step_380 : decode cL_step 380 = .ok (.aload_n 0, 1) := by decide +kernel
theorem dL_step_381 : decode cL_step 381 = .ok (.iload_n 1, 1) := by decide +kernel
theorem dL_step_382 : decode cL_step 382 = .ok (.bipush 19, 2) := by decide +kernel
theorem dL_step_384 : decode cL_step 384 = .ok (.if_icmp .ne 8, 3) := by decide +kernel
theorem dL_step_387 : decode cL_step 387 = .ok (.bipush 9, 2) := by decide +kernel
theorem dL_step_389 : decode cL_step 389 = .ok (.goto 36, 3) := by decide +kernel
theorem dL_step_392 : decode cL_step 392 = .ok (.iload_n 1, 1) := by decide +kernel
theorem dL_step_393 : decode cL_step 393 = .ok (.bipush 20, 2) := by decide +kernel
theorem dL_step_395 : decode cL_step 395 = .ok (.if_icmp .ne 8, 3) := by decide +kernel
theorem dL_step_398 : decode cL_step 398 = .ok (.bipush 10, 2) := by decide +kernel
theorem dL_step_400 : decode cL_step 400 = .ok (.goto 25, 3) := by decide +kernel
theorem dL_step_403 : decode cL_step 403 = .ok (.aload_n 0, 1) := by decide +kernel
theorem dL_step_404 : decode cL_step 404 = .ok (.iload 11, 2) := by decide +kernel
theorem dL_step_406 : decode cL_step 406 = .ok (.invokevirtual 87, 3) := by decide +kernel
theorem dL_step_409 : decode cL_step 409 = .ok (.ifCond .ge 14, 3) := by decide +kernel
theorem dL_step_412 : decode cL_step 412 = .ok (.iload_n 3, 1) := by decide +kernel
theorem dL_step_413 : decode cL_step 413 = .ok (.iconst 3, 1) := by decide +kernel
theorem dL_step_414 : decode cL_step 414 = .ok (.irem, 1) := by decide +kernel
theorem dL_step_415 : decode cL_step 415 = .ok (.ifCond .le 8, 3) := by decide +kernel
theorem dL_step_418 : decode cL_step 418 = .ok (.bipush 9, 2) := by decide +kernel
theorem dL_step_420 : decode cL_step 420 = .ok (.goto 5, 3) := by decide +kernel
theorem dL_step_423 : decode cL_step 423 = .ok (.bipush 11, 2) := by decide +kernel
theorem dL_step_425 : decode cL_step 425 = .ok (.iload 11, 2) := by decide +kernel
theorem dL_step_427 : decode cL_step 427 = .ok (.iload_n 3, 1) := by decide +kernel
theorem dL_step_428 : decode cL_step 428 = .ok (.iconst 3, 1) := by decide +kernel
theorem dL_step_429 : decode cL_step 429 = .ok (.idiv, 1) := by decide +kernel
theorem dL_step_430 : decode cL_step 430 = .ok (.aload 4, 2) := by decide +kernel
theorem dL_step_432 : decode cL_step 432 = .ok (.aload 5, 2) := by decide +kernel
theorem dL_step_434 : decode cL_step 434 = .ok (.aload 7, 2) := by decide +kernel
theorem dL_step_436 : decode cL_step 436 = .ok (.invokestatic 161, 3) := by decide +kernel
theorem dL_step_439 : decode cL_step 439 = .ok (.ireturn, 1) := by decide +kernel
theorem dL_step_440 : decode cL_step 440 = .ok (.aload_n 0, 1) := by decide +kernel
theorem dL_step_441 : decode cL_step 441 = .ok (.iload_n 3, 1) := by decide +kernel
theorem dL_step_442 : decode cL_step 442 = .ok (.bipush 8, 2) := by decide +kernel
theorem dL_step_444 : decode cL_step 444 = .ok (.irem, 1) := by decide +kernel
theorem dL_step_445 : decode cL_step 445 = .ok (.aload 4, 2) := by decide +kernel
theorem dL_step_447 : decode cL_step 447 = .ok (.aload 5, 2) := by decide +kernel
theorem dL_step_449 : decode cL_step 449 = .ok (.aload 9, 2) := by decide +kernel
theorem dL_step_451 : decode cL_step 451 = .ok (.invokestatic 165, 3) := by decide +kernel
theorem dL_step_454 : decode cL_step 454 = .ok (.ireturn, 1) := by decide +kernel
theorem dL_book_0 : decode cL_book 0 = .ok (.new 11, 3) := by decide +kernel
theorem dL_book_3 : decode cL_book 3 = .ok (.dup, 1) := by decide +kernel
theorem dL_book_4 : decode cL_book 4 = .ok (.invokespecial 169, 3) := by decide +kernel
theorem dL_book_7 : decode cL_book 7 = .ok (.astore_n 2, 1) := by decide +kernel
theorem dL_book_8 : decode cL_book 8 = .ok (.iconst 5, 1) := by decide +kernel
theorem dL_book_9 : decode cL_book 9 = .ok (.newarray .int, 2) := by decide +kernel
theorem dL_book_11 : decode cL_book 11 = .ok (.astore_n 3, 1) := by decide +kernel
theorem dL_book_12 : decode cL_book 12 = .ok (.bipush 60, 2) := by decide +kernel
theorem dL_book_14 : decode cL_book 14 = .ok (.newarray .int, 2) := by decide +kernel
theorem dL_book_16 : decode cL_book 16 = .ok (.astore 4, 2) := by decide +kernel
theorem dL_book_18 : decode cL_book 18 = .ok (.bipush 60, 2) := by decide +kernel
theorem dL_book_20 : decode cL_book 20 = .ok (.newarray .int, 2) := by decide +kernel
theorem dL_book_22 : decode cL_book 22 = .ok (.astore 5, 2) := by decide +kernel
theorem dL_book_24 : decode cL_book 24 = .ok (.bipush 10, 2) := by decide +kernel
theorem dL_book_26 : decode cL_book 26 = .ok (.newarray .int, 2) := by decide +kernel
theorem dL_book_28 : decode cL_book 28 = .ok (.astore 6, 2) := by decide +kernel
theorem dL_book_30 : decode cL_book 30 = .ok (.bipush 60, 2) := by decide +kernel
theorem dL_book_32 : decode cL_book 32 = .ok (.newarray .int, 2) := by decide +kernel
theorem dL_book_34 : decode cL_book 34 = .ok (.astore 7, 2) := by decide +kernel
theorem dL_book_36 : decode cL_book 36 = .ok (.iconst 1, 1) := by decide +kernel
theorem dL_book_37 : decode cL_book 37 = .ok (.newarray .long, 2) := by decide +kernel
theorem dL_book_39 : decode cL_book 39 = .ok (.astore 8, 2) := by decide +kernel
theorem dL_book_41 : decode cL_book 41 = .ok (.iconst 0, 1) := by decide +kernel
theorem dL_book_42 : decode cL_book 42 = .ok (.istore 9, 2) := by decide +kernel
theorem dL_book_44 : decode cL_book 44 = .ok (.iload 9, 2) := by decide +kernel
theorem dL_book_46 : decode cL_book 46 = .ok (.bipush 60, 2) := by decide +kernel
theorem dL_book_48 : decode cL_book 48 = .ok (.if_icmp .ge 15, 3) := by decide +kernel
theorem dL_book_51 : decode cL_book 51 = .ok (.aload 7, 2) := by decide +kernel
theorem dL_book_53 : decode cL_book 53 = .ok (.iload 9, 2) := by decide +kernel
theorem dL_book_55 : decode cL_book 55 = .ok (.iconst (-1), 1) := by decide +kernel
theorem dL_book_56 : decode cL_book 56 = .ok (.iastore, 1) := by decide +kernel
theorem dL_book_57 : decode cL_book 57 = .ok (.iinc 9 1, 3) := by decide +kernel
theorem dL_book_60 : decode cL_book 60 = .ok (.goto (-16), 3) := by decide +kernel
theorem dL_book_63 : decode cL_book 63 = .ok (.iconst 0, 1) := by decide +kernel
theorem dL_book_64 : decode cL_book 64 = .ok (.istore 9, 2) := by decide +kernel
theorem dL_book_66 : decode cL_book 66 = .ok (.iload 9, 2) := by decide +kernel
theorem dL_book_68 : decode cL_book 68 = .ok (.bipush 70, 2) := by decide +kernel
theorem dL_book_70 : decode cL_book 70 = .ok (.if_icmp .ge 98, 3) := by decide +kernel
theorem dL_book_73 : decode cL_book 73 = .ok (.aload_n 0, 1) := by decide +kernel
theorem dL_book_74 : decode cL_book 74 = .ok (.iload_n 1, 1) := by decide +kernel
theorem dL_book_75 : decode cL_book 75 = .ok (.iconst 3, 1) := by decide +kernel
theorem dL_book_76 : decode cL_book 76 = .ok (.iload 9, 2) := by decide +kernel
theorem dL_book_78 : decode cL_book 78 = .ok (.imul, 1) := by decide +kernel
theorem dL_book_79 : decode cL_book 79 = .ok (.iadd, 1) := by decide +kernel
theorem dL_book_80 : decode cL_book 80 = .ok (.iconst 1, 1) := by decide +kernel
theorem dL_book_81 : decode cL_book 81 = .ok (.iadd, 1) := by decide +kernel
theorem dL_book_82 : decode cL_book 82 = .ok (.ldc 170, 2) := by decide +kernel
theorem dL_book_84 : decode cL_book 84 = .ok (.invokestatic 171, 3) := by decide +kernel
theorem dL_book_87 : decode cL_book 87 = .ok (.istore 10, 2) := by decide +kernel
theorem dL_book_89 : decode cL_book 89 = .ok (.aload_n 0, 1) := by decide +kernel
theorem dL_book_90 : decode cL_book 90 = .ok (.iload_n 1, 1) := by decide +kernel
theorem dL_book_91 : decode cL_book 91 = .ok (.iconst 3, 1) := by decide +kernel
theorem dL_book_92 : decode cL_book 92 = .ok (.iload 9, 2) := by decide +kernel
theorem dL_book_94 : decode cL_book 94 = .ok (.imul, 1) := by decide +kernel
theorem dL_book_95 : decode cL_book 95 = .ok (.iadd, 1) := by decide +kernel
theorem dL_book_96 : decode cL_book 96 = .ok (.iconst 2, 1) := by decide +kernel
theorem dL_book_97 : decode cL_book 97 = .ok (.iadd, 1) := by decide +kernel
theorem dL_book_98 : decode cL_book 98 = .ok (.ldc 170, 2) := by decide +kernel
theorem dL_book_100 : decode cL_book 100 = .ok (.invokestatic 171, 3) := by decide +kernel
theorem dL_book_103 : decode cL_book 103 = .ok (.istore 11, 2) := by decide +kernel
theorem dL_book_105 : decode cL_book 105 = .ok (.aload_n 2, 1) := by decide +kernel
theorem dL_book_106 : decode cL_book 106 = .ok (.iload 9, 2) := by decide +kernel
theorem dL_book_108 : decode cL_book 108 = .ok (.bipush 6, 2) := by decide +kernel
theorem dL_book_110 : decode cL_book 110 = .ok (.if_icmp .ge 7, 3) := by decide +kernel
theorem dL_book_113 : decode cL_book 113 = .ok (.iconst 0, 1) := by decide +kernel
theorem dL_book_114 : decode cL_book 114 = .ok (.goto 15, 3) := by decide +kernel
theorem dL_book_117 : decode cL_book 117 = .ok (.aload_n 0, 1) := by decide +kernel
theorem dL_book_118 : decode cL_book 118 = .ok (.iload_n 1, 1) := by decide +kernel
theorem dL_book_119 : decode cL_book 119 = .ok (.iconst 3, 1) := by decide +kernel
theorem dL_book_120 : decode cL_book 120 = .ok (.iload 9, 2) := by decide +kernel
theorem dL_book_122 : decode cL_book 122 = .ok (.imul, 1) := by decide +kernel
theorem dL_book_123 : decode cL_book 123 = .ok (.iadd, 1) := by decide +kernel
theorem dL_book_124 : decode cL_book 124 = .ok (.bipush 25, 2) := by decide +kernel
theorem dL_book_126 : decode cL_book 126 = .ok (.invokestatic 171, 3) := by decide +kernel
theorem dL_book_129 : decode cL_book 129 = .ok (.iload 10, 2) := by decide +kernel
theorem dL_book_131 : decode cL_book 131 = .ok (.iload 11, 2) := by decide +kernel
theorem dL_book_133 : decode cL_book 133 = .ok (.aload_n 3, 1) := by decide +kernel
theorem dL_book_134 : decode cL_book 134 = .ok (.aload 4, 2) := by decide +kernel
theorem dL_book_136 : decode cL_book 136 = .ok (.aload 5, 2) := by decide +kernel
theorem dL_book_138 : decode cL_book 138 = .ok (.aload 6, 2) := by decide +kernel
theorem dL_book_140 : decode cL_book 140 = .ok (.aload 7, 2) := by decide +kernel
theorem dL_book_142 : decode cL_book 142 = .ok (.aload 8, 2) := by decide +kernel
theorem dL_book_144 : decode cL_book 144 = .ok (.invokestatic 175, 3) := by decide +kernel
theorem dL_book_147 : decode cL_book 147 = .ok (.ifCond .eq 13, 3) := by decide +kernel
theorem dL_book_150 : decode cL_book 150 = .ok (.aload_n 2, 1) := by decide +kernel
theorem dL_book_151 : decode cL_book 151 = .ok (.aload_n 3, 1) := by decide +kernel
theorem dL_book_152 : decode cL_book 152 = .ok (.aload 8, 2) := by decide +kernel
theorem dL_book_154 : decode cL_book 154 = .ok (.invokestatic 179, 3) := by decide +kernel
theorem dL_book_157 : decode cL_book 157 = .ok (.ifCond .ne 5, 3) := by decide +kernel
theorem dL_book_160 : decode cL_book 160 = .ok (.iconst 0, 1) := by decide +kernel
theorem dL_book_161 : decode cL_book 161 = .ok (.ireturn, 1) := by decide +kernel
theorem dL_book_162 : decode cL_book 162 = .ok (.iinc 9 1, 3) := by decide +kernel
theorem dL_book_165 : decode cL_book 165 = .ok (.goto (-99), 3) := by decide +kernel
theorem dL_book_168 : decode cL_book 168 = .ok (.iconst 1, 1) := by decide +kernel
theorem dL_book_169 : decode cL_book 169 = .ok (.ireturn, 1) := by decide +kernel
theorem dL_law_0 : decode cL_law 0 = .ok (.aload_n 0, 1) := by decide +kernel
theorem dL_law_1 : decode cL_law 1 = .ok (.iconst 0, 1) := by decide +kernel
theorem dL_law_2 : decode cL_law 2 = .ok (.invokestatic 183, 3) := by decide +kernel
theorem dL_law_5 : decode cL_law 5 = .ok (.ifCond .eq 27, 3) := by decide +kernel
theorem dL_law_8 : decode cL_law 8 = .ok (.aload_n 0, 1) := by decide +kernel
theorem dL_law_9 : decode cL_law 9 = .ok (.sipush 215, 3) := by decide +kernel
theorem dL_law_12 : decode cL_law 12 = .ok (.invokestatic 183, 3) := by decide +kernel
theorem dL_law_15 : decode cL_law 15 = .ok (.ifCond .eq 17, 3) := by decide +kernel
theorem dL_law_18 : decode cL_law 18 = .ok (.aload_n 0, 1) := by decide +kernel
theorem dL_law_19 : decode cL_law 19 = .ok (.sipush 430, 3) := by decide +kernel
theorem dL_law_22 : decode cL_law 22 = .ok (.invokestatic 183, 3) := by decide +kernel
theorem dL_law_25 : decode cL_law 25 = .ok (.ifCond .eq 7, 3) := by decide +kernel
theorem dL_law_28 : decode cL_law 28 = .ok (.iconst 1, 1) := by decide +kernel
theorem dL_law_29 : decode cL_law 29 = .ok (.goto 4, 3) := by decide +kernel
theorem dL_law_32 : decode cL_law 32 = .ok (.iconst 0, 1) := by decide +kernel
theorem dL_law_33 : decode cL_law 33 = .ok (.ireturn, 1) := by decide +kernel
end
section
/-- the words of the tables that stay true in every later state -/
def pgWd : List Cond := lw_tbl.filter goodWord
theorem pg_in {w : Cond} (i : Nat) (h : (decide (tables_1[i]? = some w) && goodWord w) = true) : w ∈ pgWd := by
  simp only [Bool.and_eq_true, decide_eq_true_eq] at h
  exact List.mem_filter.mpr ⟨List.mem_append_right _ (List.mem_of_getElem? h.1), h.2⟩
theorem pg_inP {w : Cond} (i : Nat) (h : (decide ((k2_sels lw_privs)[i]? = some w) && goodWord w) = true) : w ∈ pgWd := by
  simp only [Bool.and_eq_true, decide_eq_true_eq] at h
  exact List.mem_filter.mpr ⟨List.mem_append_left _ (List.mem_of_getElem? h.1), h.2⟩
theorem pg_ins {ws : List Cond} (ps : List Nat) (h : (decide (ws = ps.filterMap (fun i => tables_1[i]?)) && ws.all goodWord) = true) : ∀ w ∈ ws, w ∈ pgWd := by
  simp only [Bool.and_eq_true, decide_eq_true_eq] at h
  intro w hw
  have h2 := List.all_eq_true.mp h.2 w hw
  rw [h.1] at hw
  obtain ⟨i, -, hi⟩ := List.mem_filterMap.mp hw
  exact List.mem_filter.mpr ⟨List.mem_append_right _ (List.mem_of_getElem? hi), h2⟩
theorem q_0 : Cond.initialized RL ∈ pgWd := pg_in 0 (by decide +kernel)
theorem q_1 : Cond.initialized RX2 ∈ pgWd := pg_in 1 (by decide +kernel)
theorem q_2 : Cond.initialized RX0 ∈ pgWd := pg_in 2 (by decide +kernel)
theorem q_3 : Cond.initialized "java/lang/Throwable" ∈ pgWd := pg_in 3 (by decide +kernel)
theorem q_4 : Cond.initialized "java/lang/Exception" ∈ pgWd := pg_in 4 (by decide +kernel)
theorem q_5 : Cond.initialized "java/lang/RuntimeException" ∈ pgWd := pg_in 5 (by decide +kernel)
theorem q_6 : Cond.initialized "java/lang/IndexOutOfBoundsException" ∈ pgWd := pg_in 6 (by decide +kernel)
theorem q_7 : Cond.initialized "java/lang/IllegalArgumentException" ∈ pgWd := pg_in 7 (by decide +kernel)
theorem q_8 : Cond.initialized "java/lang/IllegalStateException" ∈ pgWd := pg_in 8 (by decide +kernel)
theorem q_9 : Cond.initialized RX1 ∈ pgWd := pg_in 9 (by decide +kernel)
theorem q_10 : Cond.initialized "java/util/NoSuchElementException" ∈ pgWd := pg_in 10 (by decide +kernel)
theorem q_11 : Cond.methodLink RL 183 yL_book ∈ pgWd := pg_in 11 (by decide +kernel)
theorem q_12 : Cond.static yL_book ∈ pgWd := pg_in 12 (by decide +kernel)
theorem q_13 : Cond.code yL_book cL_book 12 (some .boolean) ∈ pgWd := pg_in 13 (by decide +kernel)
theorem q_14 : Cond.classLink RL 11 RX2 ∈ pgWd := pg_in 14 (by decide +kernel)
theorem q_15 : Cond.instantiable RX2 7 ∈ pgWd := pg_in 15 (by decide +kernel)
theorem q_16 : Cond.methodLink RL 169 yX2_init ∈ pgWd := pg_in 16 (by decide +kernel)
theorem q_17 : Cond.instanceMethod yX2_init ∈ pgWd := pg_in 17 (by decide +kernel)
theorem q_18 : Cond.code yX2_init cX2_init 2 none ∈ pgWd := pg_in 18 (by decide +kernel)
theorem q_19 : Cond.methodLink RX2 1 objectInit ∈ pgWd := pg_in 19 (by decide +kernel)
theorem q_20 : Cond.instanceMethod objectInit ∈ pgWd := pg_in 20 (by decide +kernel)
theorem q_21 : Cond.code objectInit ⟨#[0xb1]⟩ 1 none ∈ pgWd := pg_in 21 (by decide +kernel)
theorem q_22 : Cond.classLink RX2 9 RX1 ∈ pgWd := pg_in 22 (by decide +kernel)
theorem q_24 : Cond.classLink RX2 15 RX0 ∈ pgWd := pg_in 24 (by decide +kernel)
theorem q_26 : Cond.instantiable RX0 4 ∈ pgWd := pg_in 26 (by decide +kernel)
theorem q_27 : Cond.methodLink RX2 21 yX0_init ∈ pgWd := pg_in 27 (by decide +kernel)
theorem q_28 : Cond.instanceMethod yX0_init ∈ pgWd := pg_in 28 (by decide +kernel)
theorem q_29 : Cond.code yX0_init cX0_init 2 none ∈ pgWd := pg_in 29 (by decide +kernel)
theorem q_30 : Cond.methodLink RX0 3 objectInit ∈ pgWd := pg_in 30 (by decide +kernel)
theorem q_31 : Cond.fieldLink RX0 15 "Shredroll$Crate" "number" "I" ∈ pgWd := pg_in 31 (by decide +kernel)
theorem q_32 : Cond.fieldLink RX1 34 "Shredroll$Crate" "number" "I" ∈ pgWd := pg_in 32 (by decide +kernel)
theorem q_33 : Cond.fieldLink RX2 93 "Shredroll$Crate" "number" "I" ∈ pgWd := pg_in 33 (by decide +kernel)
theorem q_34 : Cond.fieldLink RX2 80 "Shredroll$Crate" "keeper" "I" ∈ pgWd := pg_in 34 (by decide +kernel)
theorem q_35 : Cond.fieldLink RX0 9 "Shredroll$Crate" "seal" "I" ∈ pgWd := pg_in 35 (by decide +kernel)
theorem q_36 : Cond.fieldLink RX2 101 "Shredroll$Crate" "seal" "I" ∈ pgWd := pg_in 36 (by decide +kernel)
theorem q_37 : Cond.fieldLink RX2 104 "Shredroll$Crate" "remembered" "I" ∈ pgWd := pg_in 37 (by decide +kernel)
theorem q_47 : Cond.fieldLink RX2 11 "Shredroll" "broughtDisks" "[LShredroll$Disk;" ∈ pgWd := pg_in 47 (by decide +kernel)
theorem q_48 : Cond.fieldLink RX2 17 "Shredroll" "allCrates" "[LShredroll$Crate;" ∈ pgWd := pg_in 48 (by decide +kernel)
theorem q_49 : Cond.fieldLink RX2 34 "Shredroll" "diskCount" "I" ∈ pgWd := pg_in 49 (by decide +kernel)
theorem q_50 : Cond.fieldLink RX2 96 "Shredroll" "sealCount" "I" ∈ pgWd := pg_in 50 (by decide +kernel)
theorem q_51 : Cond.fieldLink RX2 111 "Shredroll" "oddCount" "I" ∈ pgWd := pg_in 51 (by decide +kernel)
theorem q_52 : Cond.fieldLink RX2 181 "Shredroll" "logCount" "I" ∈ pgWd := pg_in 52 (by decide +kernel)
theorem q_53 : Cond.fieldLink RX2 164 "Shredroll" "certificateCount" "I" ∈ pgWd := pg_in 53 (by decide +kernel)
theorem q_69 : Cond.constant RL 170 1073741824 ∈ pgWd := pg_in 69 (by decide +kernel)
theorem q_70 : Cond.methodLink RL 171 yL_draw ∈ pgWd := pg_in 70 (by decide +kernel)
theorem q_71 : Cond.static yL_draw ∈ pgWd := pg_in 71 (by decide +kernel)
theorem q_72 : Cond.code yL_draw cL_draw 4 (some .int) ∈ pgWd := pg_in 72 (by decide +kernel)
theorem q_73 : Cond.constant RL 7 936240561 ∈ pgWd := pg_in 73 (by decide +kernel)
theorem q_74 : Cond.constant RL 8 1102697463 ∈ pgWd := pg_in 74 (by decide +kernel)
theorem q_75 : Cond.constant RL 9 2147483647 ∈ pgWd := pg_in 75 (by decide +kernel)
theorem q_76 : Cond.methodLink RL 175 yL_step ∈ pgWd := pg_in 76 (by decide +kernel)
theorem q_77 : Cond.static yL_step ∈ pgWd := pg_in 77 (by decide +kernel)
theorem q_78 : Cond.code yL_step cL_step 12 (some .boolean) ∈ pgWd := pg_in 78 (by decide +kernel)
theorem q_79 : Cond.methodLink RL 139 yX2_bring ∈ pgWd := pg_in 79 (by decide +kernel)
theorem q_80 : Cond.instanceMethod yX2_bring ∈ pgWd := pg_in 80 (by decide +kernel)
theorem q_81 : Cond.selects RX2 yX2_bring yX2_bring ∈ pgWd := pg_in 81 (by decide +kernel)
theorem q_82 : Cond.code yX2_bring cX2_bring 6 (some .int) ∈ pgWd := pg_in 82 (by decide +kernel)
theorem q_83 : Cond.methodLink RX2 24 yX2_requireKeeper ∈ pgWd := pg_in 83 (by decide +kernel)
theorem q_84 : Cond.static yX2_requireKeeper ∈ pgWd := pg_in 84 (by decide +kernel)
theorem q_85 : Cond.code yX2_requireKeeper cX2_requireKeeper 1 none ∈ pgWd := pg_in 85 (by decide +kernel)
theorem q_86 : Cond.classLink RX2 184 "java/lang/IndexOutOfBoundsException" ∈ pgWd := pg_in 86 (by decide +kernel)
theorem q_87 : Cond.instantiable "java/lang/IndexOutOfBoundsException" 6 ∈ pgWd := pg_in 87 (by decide +kernel)
theorem q_126 : Cond.instantiable "java/lang/Throwable" 6 ∈ pgWd := pg_in 126 (by decide +kernel)
theorem q_129 : Cond.methodLink RX2 188 ⟨"java/lang/IndexOutOfBoundsException", "<init>", "(Ljava/lang/String;)V"⟩ ∈ pgWd := pg_in 129 (by decide +kernel)
theorem q_154 : Cond.arrayClass .int ∈ pgWd := pg_in 154 (by decide +kernel)
theorem q_155 : Cond.arrayClass .long ∈ pgWd := pg_in 155 (by decide +kernel)
theorem q_156 : Cond.arrayClass .byte ∈ pgWd := pg_in 156 (by decide +kernel)
theorem q_157 : Cond.classLink RX2 27 "java/lang/IllegalArgumentException" ∈ pgWd := pg_in 157 (by decide +kernel)
theorem q_158 : Cond.instantiable "java/lang/IllegalArgumentException" 6 ∈ pgWd := pg_in 158 (by decide +kernel)
theorem q_167 : Cond.methodLink RX2 31 ⟨"java/lang/IllegalArgumentException", "<init>", "(Ljava/lang/String;)V"⟩ ∈ pgWd := pg_in 167 (by decide +kernel)
theorem q_173 : Cond.classLink RX2 38 "java/lang/IllegalStateException" ∈ pgWd := pg_in 173 (by decide +kernel)
theorem q_174 : Cond.instantiable "java/lang/IllegalStateException" 6 ∈ pgWd := pg_in 174 (by decide +kernel)
theorem q_183 : Cond.methodLink RX2 42 ⟨"java/lang/IllegalStateException", "<init>", "(Ljava/lang/String;)V"⟩ ∈ pgWd := pg_in 183 (by decide +kernel)
theorem q_189 : Cond.instantiable RX1 11 ∈ pgWd := pg_in 189 (by decide +kernel)
theorem q_190 : Cond.methodLink RX2 43 yX1_init ∈ pgWd := pg_in 190 (by decide +kernel)
theorem q_191 : Cond.instanceMethod yX1_init ∈ pgWd := pg_in 191 (by decide +kernel)
theorem q_192 : Cond.code yX1_init cX1_init 3 none ∈ pgWd := pg_in 192 (by decide +kernel)
theorem q_193 : Cond.methodLink RX1 3 objectInit ∈ pgWd := pg_in 193 (by decide +kernel)
theorem q_194 : Cond.fieldLink RX1 24 "Shredroll$Disk" "kind" "I" ∈ pgWd := pg_in 194 (by decide +kernel)
theorem q_195 : Cond.fieldLink RX2 135 "Shredroll$Disk" "kind" "I" ∈ pgWd := pg_in 195 (by decide +kernel)
theorem q_196 : Cond.fieldLink RX1 27 "Shredroll$Disk" "secrecy" "I" ∈ pgWd := pg_in 196 (by decide +kernel)
theorem q_197 : Cond.fieldLink RX2 138 "Shredroll$Disk" "secrecy" "I" ∈ pgWd := pg_in 197 (by decide +kernel)
theorem q_198 : Cond.fieldLink RX2 54 "Shredroll$Disk" "keeper" "I" ∈ pgWd := pg_in 198 (by decide +kernel)
theorem q_199 : Cond.fieldLink RX2 175 "Shredroll$Disk" "loggedKeeper" "I" ∈ pgWd := pg_in 199 (by decide +kernel)
theorem q_200 : Cond.fieldLink RX1 30 "Shredroll$Disk" "crate" "LShredroll$Crate;" ∈ pgWd := pg_in 200 (by decide +kernel)
theorem q_201 : Cond.fieldLink RX2 83 "Shredroll$Disk" "crate" "LShredroll$Crate;" ∈ pgWd := pg_in 201 (by decide +kernel)
theorem q_202 : Cond.fieldLink RX1 9 "Shredroll$Disk" "offeredTo" "I" ∈ pgWd := pg_in 202 (by decide +kernel)
theorem q_203 : Cond.fieldLink RX2 63 "Shredroll$Disk" "offeredTo" "I" ∈ pgWd := pg_in 203 (by decide +kernel)
theorem q_204 : Cond.fieldLink RX1 15 "Shredroll$Disk" "state" "I" ∈ pgWd := pg_in 204 (by decide +kernel)
theorem q_205 : Cond.fieldLink RX2 130 "Shredroll$Disk" "state" "I" ∈ pgWd := pg_in 205 (by decide +kernel)
theorem q_206 : Cond.fieldLink RX1 18 "Shredroll$Disk" "doer" "I" ∈ pgWd := pg_in 206 (by decide +kernel)
theorem q_207 : Cond.fieldLink RX2 141 "Shredroll$Disk" "doer" "I" ∈ pgWd := pg_in 207 (by decide +kernel)
theorem q_208 : Cond.fieldLink RX1 43 "Shredroll$Disk" "isFoundGood" "Z" ∈ pgWd := pg_in 208 (by decide +kernel)
theorem q_209 : Cond.fieldLink RX2 144 "Shredroll$Disk" "isFoundGood" "Z" ∈ pgWd := pg_in 209 (by decide +kernel)
theorem q_210 : Cond.fieldLink RX2 66 "Shredroll$Disk" "isMissing" "Z" ∈ pgWd := pg_in 210 (by decide +kernel)
theorem q_211 : Cond.fieldLink RX1 50 "Shredroll$Disk" "isMissing" "Z" ∈ pgWd := pg_in 211 (by decide +kernel)
theorem q_212 : Cond.fieldLink RX1 21 "Shredroll$Disk" "certificate" "I" ∈ pgWd := pg_in 212 (by decide +kernel)
theorem q_213 : Cond.fieldLink RX2 167 "Shredroll$Disk" "certificate" "I" ∈ pgWd := pg_in 213 (by decide +kernel)
theorem q_237 : Cond.methodLink RX2 46 yX2_handOver ∈ pgWd := pg_in 237 (by decide +kernel)
theorem q_239 : Cond.instanceMethod yX2_handOver ∈ pgWd := pg_in 239 (by decide +kernel)
theorem q_240 : Cond.code yX2_handOver cX2_handOver 3 none ∈ pgWd := pg_in 240 (by decide +kernel)
theorem q_241 : Cond.methodLink RL 62 yX2_keeperOf ∈ pgWd := pg_in 241 (by decide +kernel)
theorem q_242 : Cond.instanceMethod yX2_keeperOf ∈ pgWd := pg_in 242 (by decide +kernel)
theorem q_243 : Cond.selects RX2 yX2_keeperOf yX2_keeperOf ∈ pgWd := pg_in 243 (by decide +kernel)
theorem q_244 : Cond.code yX2_keeperOf cX2_keeperOf 2 (some .int) ∈ pgWd := pg_in 244 (by decide +kernel)
theorem q_245 : Cond.methodLink RX2 50 yX2_findDisk ∈ pgWd := pg_in 245 (by decide +kernel)
theorem q_247 : Cond.instanceMethod yX2_findDisk ∈ pgWd := pg_in 247 (by decide +kernel)
theorem q_248 : Cond.code yX2_findDisk cX2_findDisk 3 (some (.object "Shredroll$Disk")) ∈ pgWd := pg_in 248 (by decide +kernel)
theorem q_250 : Cond.methodLink RL 68 yX2_stateOf ∈ pgWd := pg_in 250 (by decide +kernel)
theorem q_251 : Cond.instanceMethod yX2_stateOf ∈ pgWd := pg_in 251 (by decide +kernel)
theorem q_252 : Cond.selects RX2 yX2_stateOf yX2_stateOf ∈ pgWd := pg_in 252 (by decide +kernel)
theorem q_253 : Cond.code yX2_stateOf cX2_stateOf 2 (some .int) ∈ pgWd := pg_in 253 (by decide +kernel)
theorem q_254 : Cond.methodLink RL 65 yX2_crateOf ∈ pgWd := pg_in 254 (by decide +kernel)
theorem q_255 : Cond.instanceMethod yX2_crateOf ∈ pgWd := pg_in 255 (by decide +kernel)
theorem q_256 : Cond.selects RX2 yX2_crateOf yX2_crateOf ∈ pgWd := pg_in 256 (by decide +kernel)
theorem q_257 : Cond.code yX2_crateOf cX2_crateOf 2 (some .int) ∈ pgWd := pg_in 257 (by decide +kernel)
theorem q_258 : Cond.methodLink RX2 157 yX1_crateNumber ∈ pgWd := pg_in 258 (by decide +kernel)
theorem q_259 : Cond.instanceMethod yX1_crateNumber ∈ pgWd := pg_in 259 (by decide +kernel)
theorem q_260 : Cond.selects RX1 yX1_crateNumber yX1_crateNumber ∈ pgWd := pg_in 260 (by decide +kernel)
theorem q_261 : Cond.code yX1_crateNumber cX1_crateNumber 1 (some .int) ∈ pgWd := pg_in 261 (by decide +kernel)
theorem q_262 : Cond.methodLink RL 142 yL_all ∈ pgWd := pg_in 262 (by decide +kernel)
theorem q_263 : Cond.static yL_all ∈ pgWd := pg_in 263 (by decide +kernel)
theorem q_264 : Cond.code yL_all cL_all 4 none ∈ pgWd := pg_in 264 (by decide +kernel)
theorem q_265 : Cond.methodLink RL 81 yL_disk ∈ pgWd := pg_in 265 (by decide +kernel)
theorem q_266 : Cond.static yL_disk ∈ pgWd := pg_in 266 (by decide +kernel)
theorem q_267 : Cond.code yL_disk cL_disk 2 (some .int) ∈ pgWd := pg_in 267 (by decide +kernel)
theorem q_268 : Cond.methodLink RL 71 yX2_offeredTo ∈ pgWd := pg_in 268 (by decide +kernel)
theorem q_269 : Cond.instanceMethod yX2_offeredTo ∈ pgWd := pg_in 269 (by decide +kernel)
theorem q_270 : Cond.selects RX2 yX2_offeredTo yX2_offeredTo ∈ pgWd := pg_in 270 (by decide +kernel)
theorem q_271 : Cond.code yX2_offeredTo cX2_offeredTo 2 (some .int) ∈ pgWd := pg_in 271 (by decide +kernel)
theorem q_272 : Cond.methodLink RL 74 yX2_isDone ∈ pgWd := pg_in 272 (by decide +kernel)
theorem q_273 : Cond.instanceMethod yX2_isDone ∈ pgWd := pg_in 273 (by decide +kernel)
theorem q_274 : Cond.selects RX2 yX2_isDone yX2_isDone ∈ pgWd := pg_in 274 (by decide +kernel)
theorem q_275 : Cond.code yX2_isDone cX2_isDone 2 (some .boolean) ∈ pgWd := pg_in 275 (by decide +kernel)
theorem q_276 : Cond.methodLink RX2 178 yX1_isFinished ∈ pgWd := pg_in 276 (by decide +kernel)
theorem q_277 : Cond.instanceMethod yX1_isFinished ∈ pgWd := pg_in 277 (by decide +kernel)
theorem q_278 : Cond.selects RX1 yX1_isFinished yX1_isFinished ∈ pgWd := pg_in 278 (by decide +kernel)
theorem q_279 : Cond.code yX1_isFinished cX1_isFinished 1 (some .boolean) ∈ pgWd := pg_in 279 (by decide +kernel)
theorem q_280 : Cond.methodLink RL 78 yX2_certificateOf ∈ pgWd := pg_in 280 (by decide +kernel)
theorem q_281 : Cond.instanceMethod yX2_certificateOf ∈ pgWd := pg_in 281 (by decide +kernel)
theorem q_282 : Cond.selects RX2 yX2_certificateOf yX2_certificateOf ∈ pgWd := pg_in 282 (by decide +kernel)
theorem q_283 : Cond.code yX2_certificateOf cX2_certificateOf 2 (some .int) ∈ pgWd := pg_in 283 (by decide +kernel)
theorem q_284 : Cond.methodLink RL 146 yL_hands ∈ pgWd := pg_in 284 (by decide +kernel)
theorem q_285 : Cond.static yL_hands ∈ pgWd := pg_in 285 (by decide +kernel)
theorem q_286 : Cond.code yL_hands cL_hands 13 (some .boolean) ∈ pgWd := pg_in 286 (by decide +kernel)
theorem q_287 : Cond.methodLink RL 123 yL_isFree ∈ pgWd := pg_in 287 (by decide +kernel)
theorem q_288 : Cond.static yL_isFree ∈ pgWd := pg_in 288 (by decide +kernel)
theorem q_289 : Cond.code yL_isFree cL_isFree 3 (some .boolean) ∈ pgWd := pg_in 289 (by decide +kernel)
theorem q_290 : Cond.methodLink RL 90 yL_isMissing ∈ pgWd := pg_in 290 (by decide +kernel)
theorem q_291 : Cond.static yL_isMissing ∈ pgWd := pg_in 291 (by decide +kernel)
theorem q_292 : Cond.code yL_isMissing cL_isMissing 2 (some .boolean) ∈ pgWd := pg_in 292 (by decide +kernel)
theorem q_293 : Cond.methodLink RL 94 yL_isShut ∈ pgWd := pg_in 293 (by decide +kernel)
theorem q_294 : Cond.static yL_isShut ∈ pgWd := pg_in 294 (by decide +kernel)
theorem q_295 : Cond.code yL_isShut cL_isShut 2 (some .boolean) ∈ pgWd := pg_in 295 (by decide +kernel)
theorem q_296 : Cond.methodLink RL 87 yX2_sealOf ∈ pgWd := pg_in 296 (by decide +kernel)
theorem q_297 : Cond.instanceMethod yX2_sealOf ∈ pgWd := pg_in 297 (by decide +kernel)
theorem q_298 : Cond.selects RX2 yX2_sealOf yX2_sealOf ∈ pgWd := pg_in 298 (by decide +kernel)
theorem q_299 : Cond.code yX2_sealOf cX2_sealOf 2 (some .int) ∈ pgWd := pg_in 299 (by decide +kernel)
theorem q_300 : Cond.methodLink RX2 72 yX2_findCrate ∈ pgWd := pg_in 300 (by decide +kernel)
theorem q_302 : Cond.instanceMethod yX2_findCrate ∈ pgWd := pg_in 302 (by decide +kernel)
theorem q_303 : Cond.code yX2_findCrate cX2_findCrate 3 (some (.object "Shredroll$Crate")) ∈ pgWd := pg_in 303 (by decide +kernel)
theorem q_305 : Cond.methodLink RL 127 yL_asks ∈ pgWd := pg_in 305 (by decide +kernel)
theorem q_306 : Cond.static yL_asks ∈ pgWd := pg_in 306 (by decide +kernel)
theorem q_307 : Cond.codeWith yL_asks cL_asks 6 (some .int) [(0, 194, 195, 56), (0, 194, 200, 58), (0, 194, 205, 60)] ∈ pgWd := pg_in 307 (by decide +kernel)
theorem q_308 : Cond.classLink RL 56 "java/lang/IllegalStateException" ∈ pgWd := pg_in 308 (by decide +kernel)
theorem q_309 : Cond.classLink RL 58 "java/lang/IllegalArgumentException" ∈ pgWd := pg_in 309 (by decide +kernel)
theorem q_310 : Cond.classLink RL 60 "java/util/NoSuchElementException" ∈ pgWd := pg_in 310 (by decide +kernel)
theorem q_311 : Cond.methodLink RL 10 yX2_offer ∈ pgWd := pg_in 311 (by decide +kernel)
theorem q_312 : Cond.instanceMethod yX2_offer ∈ pgWd := pg_in 312 (by decide +kernel)
theorem q_313 : Cond.selects RX2 yX2_offer yX2_offer ∈ pgWd := pg_in 313 (by decide +kernel)
theorem q_314 : Cond.code yX2_offer cX2_offer 4 (some .int) ∈ pgWd := pg_in 314 (by decide +kernel)
theorem q_316 : Cond.methodLink RX2 59 yX2_requireLoose ∈ pgWd := pg_in 316 (by decide +kernel)
theorem q_317 : Cond.static yX2_requireLoose ∈ pgWd := pg_in 317 (by decide +kernel)
theorem q_318 : Cond.code yX2_requireLoose cX2_requireLoose 1 none ∈ pgWd := pg_in 318 (by decide +kernel)
theorem q_320 : Cond.methodLink RL 16 yX2_answer ∈ pgWd := pg_in 320 (by decide +kernel)
theorem q_321 : Cond.instanceMethod yX2_answer ∈ pgWd := pg_in 321 (by decide +kernel)
theorem q_322 : Cond.selects RX2 yX2_answer yX2_answer ∈ pgWd := pg_in 322 (by decide +kernel)
theorem q_323 : Cond.code yX2_answer cX2_answer 5 (some .int) ∈ pgWd := pg_in 323 (by decide +kernel)
theorem q_325 : Cond.methodLink RL 20 yX2_pack ∈ pgWd := pg_in 325 (by decide +kernel)
theorem q_326 : Cond.instanceMethod yX2_pack ∈ pgWd := pg_in 326 (by decide +kernel)
theorem q_327 : Cond.selects RX2 yX2_pack yX2_pack ∈ pgWd := pg_in 327 (by decide +kernel)
theorem q_328 : Cond.code yX2_pack cX2_pack 5 (some .int) ∈ pgWd := pg_in 328 (by decide +kernel)
theorem q_329 : Cond.methodLink RX2 76 yX0_isSealed ∈ pgWd := pg_in 329 (by decide +kernel)
theorem q_330 : Cond.instanceMethod yX0_isSealed ∈ pgWd := pg_in 330 (by decide +kernel)
theorem q_331 : Cond.selects RX0 yX0_isSealed yX0_isSealed ∈ pgWd := pg_in 331 (by decide +kernel)
theorem q_332 : Cond.code yX0_isSealed cX0_isSealed 1 (some .boolean) ∈ pgWd := pg_in 332 (by decide +kernel)
theorem q_334 : Cond.methodLink RX2 87 yX2_countDisksIn ∈ pgWd := pg_in 334 (by decide +kernel)
theorem q_336 : Cond.instanceMethod yX2_countDisksIn ∈ pgWd := pg_in 336 (by decide +kernel)
theorem q_337 : Cond.code yX2_countDisksIn cX2_countDisksIn 7 (some .int) ∈ pgWd := pg_in 337 (by decide +kernel)
theorem q_338 : Cond.methodLink RL 23 yX2_unpack ∈ pgWd := pg_in 338 (by decide +kernel)
theorem q_339 : Cond.instanceMethod yX2_unpack ∈ pgWd := pg_in 339 (by decide +kernel)
theorem q_340 : Cond.selects RX2 yX2_unpack yX2_unpack ∈ pgWd := pg_in 340 (by decide +kernel)
theorem q_341 : Cond.code yX2_unpack cX2_unpack 4 (some .int) ∈ pgWd := pg_in 341 (by decide +kernel)
theorem q_343 : Cond.methodLink RL 27 yX2_wipe ∈ pgWd := pg_in 343 (by decide +kernel)
theorem q_344 : Cond.instanceMethod yX2_wipe ∈ pgWd := pg_in 344 (by decide +kernel)
theorem q_345 : Cond.selects RX2 yX2_wipe yX2_wipe ∈ pgWd := pg_in 345 (by decide +kernel)
theorem q_346 : Cond.code yX2_wipe cX2_wipe 6 (some .int) ∈ pgWd := pg_in 346 (by decide +kernel)
theorem q_348 : Cond.methodLink RX2 124 yX2_requireWitnessIsNotKeeper ∈ pgWd := pg_in 348 (by decide +kernel)
theorem q_349 : Cond.static yX2_requireWitnessIsNotKeeper ∈ pgWd := pg_in 349 (by decide +kernel)
theorem q_350 : Cond.code yX2_requireWitnessIsNotKeeper cX2_requireWitnessIsNotKeeper 2 none ∈ pgWd := pg_in 350 (by decide +kernel)
theorem q_352 : Cond.methodLink RX2 127 yX2_requireWithinReach ∈ pgWd := pg_in 352 (by decide +kernel)
theorem q_353 : Cond.static yX2_requireWithinReach ∈ pgWd := pg_in 353 (by decide +kernel)
theorem q_354 : Cond.code yX2_requireWithinReach cX2_requireWithinReach 1 none ∈ pgWd := pg_in 354 (by decide +kernel)
theorem q_355 : Cond.methodLink RX2 195 yX1_isSealedIn ∈ pgWd := pg_in 355 (by decide +kernel)
theorem q_356 : Cond.instanceMethod yX1_isSealedIn ∈ pgWd := pg_in 356 (by decide +kernel)
theorem q_357 : Cond.selects RX1 yX1_isSealedIn yX1_isSealedIn ∈ pgWd := pg_in 357 (by decide +kernel)
theorem q_358 : Cond.code yX1_isSealedIn cX1_isSealedIn 1 (some .boolean) ∈ pgWd := pg_in 358 (by decide +kernel)
theorem q_359 : Cond.methodLink RX1 39 yX0_isSealed ∈ pgWd := pg_in 359 (by decide +kernel)
theorem q_362 : Cond.methodLink RL 31 yX2_smash ∈ pgWd := pg_in 362 (by decide +kernel)
theorem q_363 : Cond.instanceMethod yX2_smash ∈ pgWd := pg_in 363 (by decide +kernel)
theorem q_364 : Cond.selects RX2 yX2_smash yX2_smash ∈ pgWd := pg_in 364 (by decide +kernel)
theorem q_365 : Cond.code yX2_smash cX2_smash 5 (some .int) ∈ pgWd := pg_in 365 (by decide +kernel)
theorem q_367 : Cond.methodLink RL 34 yX2_check ∈ pgWd := pg_in 367 (by decide +kernel)
theorem q_368 : Cond.instanceMethod yX2_check ∈ pgWd := pg_in 368 (by decide +kernel)
theorem q_369 : Cond.selects RX2 yX2_check yX2_check ∈ pgWd := pg_in 369 (by decide +kernel)
theorem q_370 : Cond.code yX2_check cX2_check 5 (some .int) ∈ pgWd := pg_in 370 (by decide +kernel)
theorem q_373 : Cond.methodLink RL 38 yX2_lose ∈ pgWd := pg_in 373 (by decide +kernel)
theorem q_374 : Cond.instanceMethod yX2_lose ∈ pgWd := pg_in 374 (by decide +kernel)
theorem q_375 : Cond.selects RX2 yX2_lose yX2_lose ∈ pgWd := pg_in 375 (by decide +kernel)
theorem q_376 : Cond.code yX2_lose cX2_lose 3 (some .int) ∈ pgWd := pg_in 376 (by decide +kernel)
theorem q_378 : Cond.methodLink RL 41 yX2_find ∈ pgWd := pg_in 378 (by decide +kernel)
theorem q_379 : Cond.instanceMethod yX2_find ∈ pgWd := pg_in 379 (by decide +kernel)
theorem q_380 : Cond.selects RX2 yX2_find yX2_find ∈ pgWd := pg_in 380 (by decide +kernel)
theorem q_381 : Cond.code yX2_find cX2_find 3 (some .int) ∈ pgWd := pg_in 381 (by decide +kernel)
theorem q_383 : Cond.methodLink RL 44 yX2_seal ∈ pgWd := pg_in 383 (by decide +kernel)
theorem q_384 : Cond.instanceMethod yX2_seal ∈ pgWd := pg_in 384 (by decide +kernel)
theorem q_385 : Cond.selects RX2 yX2_seal yX2_seal ∈ pgWd := pg_in 385 (by decide +kernel)
theorem q_386 : Cond.code yX2_seal cX2_seal 3 (some .int) ∈ pgWd := pg_in 386 (by decide +kernel)
theorem q_388 : Cond.methodLink RL 47 yX2_open ∈ pgWd := pg_in 388 (by decide +kernel)
theorem q_389 : Cond.instanceMethod yX2_open ∈ pgWd := pg_in 389 (by decide +kernel)
theorem q_390 : Cond.selects RX2 yX2_open yX2_open ∈ pgWd := pg_in 390 (by decide +kernel)
theorem q_391 : Cond.code yX2_open cX2_open 5 (some .int) ∈ pgWd := pg_in 391 (by decide +kernel)
theorem q_394 : Cond.methodLink RL 50 yX2_carry ∈ pgWd := pg_in 394 (by decide +kernel)
theorem q_395 : Cond.instanceMethod yX2_carry ∈ pgWd := pg_in 395 (by decide +kernel)
theorem q_396 : Cond.selects RX2 yX2_carry yX2_carry ∈ pgWd := pg_in 396 (by decide +kernel)
theorem q_397 : Cond.code yX2_carry cX2_carry 5 (some .int) ∈ pgWd := pg_in 397 (by decide +kernel)
theorem q_400 : Cond.methodLink RX2 118 yX2_handOverDisksIn ∈ pgWd := pg_in 400 (by decide +kernel)
theorem q_402 : Cond.instanceMethod yX2_handOverDisksIn ∈ pgWd := pg_in 402 (by decide +kernel)
theorem q_403 : Cond.code yX2_handOverDisksIn cX2_handOverDisksIn 6 none ∈ pgWd := pg_in 403 (by decide +kernel)
theorem q_404 : Cond.methodLink RL 53 yX2_certify ∈ pgWd := pg_in 404 (by decide +kernel)
theorem q_405 : Cond.instanceMethod yX2_certify ∈ pgWd := pg_in 405 (by decide +kernel)
theorem q_406 : Cond.selects RX2 yX2_certify yX2_certify ∈ pgWd := pg_in 406 (by decide +kernel)
theorem q_407 : Cond.code yX2_certify cX2_certify 7 (some .int) ∈ pgWd := pg_in 407 (by decide +kernel)
theorem q_408 : Cond.methodLink RX2 161 yX1_awaitsCertificate ∈ pgWd := pg_in 408 (by decide +kernel)
theorem q_409 : Cond.instanceMethod yX1_awaitsCertificate ∈ pgWd := pg_in 409 (by decide +kernel)
theorem q_410 : Cond.selects RX1 yX1_awaitsCertificate yX1_awaitsCertificate ∈ pgWd := pg_in 410 (by decide +kernel)
theorem q_411 : Cond.code yX1_awaitsCertificate cX1_awaitsCertificate 1 (some .boolean) ∈ pgWd := pg_in 411 (by decide +kernel)
theorem q_412 : Cond.methodLink RX1 47 yX1_isFinished ∈ pgWd := pg_in 412 (by decide +kernel)
theorem q_413 : Cond.classLink RX2 170 "java/util/NoSuchElementException" ∈ pgWd := pg_in 413 (by decide +kernel)
theorem q_414 : Cond.instantiable "java/util/NoSuchElementException" 6 ∈ pgWd := pg_in 414 (by decide +kernel)
theorem q_423 : Cond.methodLink RX2 174 ⟨"java/util/NoSuchElementException", "<init>", "(Ljava/lang/String;)V"⟩ ∈ pgWd := pg_in 423 (by decide +kernel)
theorem q_429 : Cond.methodLink RL 131 yL_areSame ∈ pgWd := pg_in 429 (by decide +kernel)
theorem q_430 : Cond.static yL_areSame ∈ pgWd := pg_in 430 (by decide +kernel)
theorem q_431 : Cond.code yL_areSame cL_areSame 7 (some .boolean) ∈ pgWd := pg_in 431 (by decide +kernel)
theorem q_432 : Cond.methodLink RL 150 yL_packs ∈ pgWd := pg_in 432 (by decide +kernel)
theorem q_433 : Cond.static yL_packs ∈ pgWd := pg_in 433 (by decide +kernel)
theorem q_434 : Cond.code yL_packs cL_packs 10 (some .boolean) ∈ pgWd := pg_in 434 (by decide +kernel)
theorem q_435 : Cond.methodLink RL 114 yX2_crateKeeper ∈ pgWd := pg_in 435 (by decide +kernel)
theorem q_436 : Cond.instanceMethod yX2_crateKeeper ∈ pgWd := pg_in 436 (by decide +kernel)
theorem q_437 : Cond.selects RX2 yX2_crateKeeper yX2_crateKeeper ∈ pgWd := pg_in 437 (by decide +kernel)
theorem q_438 : Cond.code yX2_crateKeeper cX2_crateKeeper 2 (some .int) ∈ pgWd := pg_in 438 (by decide +kernel)
theorem q_439 : Cond.methodLink RL 135 yL_countIn ∈ pgWd := pg_in 439 (by decide +kernel)
theorem q_440 : Cond.static yL_countIn ∈ pgWd := pg_in 440 (by decide +kernel)
theorem q_441 : Cond.code yL_countIn cL_countIn 5 (some .int) ∈ pgWd := pg_in 441 (by decide +kernel)
theorem q_442 : Cond.methodLink RL 153 yL_works ∈ pgWd := pg_in 442 (by decide +kernel)
theorem q_443 : Cond.static yL_works ∈ pgWd := pg_in 443 (by decide +kernel)
theorem q_444 : Cond.code yL_works cL_works 18 (some .boolean) ∈ pgWd := pg_in 444 (by decide +kernel)
theorem q_445 : Cond.methodLink RL 157 yL_loses ∈ pgWd := pg_in 445 (by decide +kernel)
theorem q_446 : Cond.static yL_loses ∈ pgWd := pg_in 446 (by decide +kernel)
theorem q_447 : Cond.code yL_loses cL_loses 9 (some .boolean) ∈ pgWd := pg_in 447 (by decide +kernel)
theorem q_448 : Cond.methodLink RL 161 yL_crates ∈ pgWd := pg_in 448 (by decide +kernel)
theorem q_449 : Cond.static yL_crates ∈ pgWd := pg_in 449 (by decide +kernel)
theorem q_450 : Cond.code yL_crates cL_crates 17 (some .boolean) ∈ pgWd := pg_in 450 (by decide +kernel)
theorem q_451 : Cond.methodLink RL 165 yL_certifies ∈ pgWd := pg_in 451 (by decide +kernel)
theorem q_452 : Cond.static yL_certifies ∈ pgWd := pg_in 452 (by decide +kernel)
theorem q_453 : Cond.code yL_certifies cL_certifies 11 (some .boolean) ∈ pgWd := pg_in 453 (by decide +kernel)
theorem q_454 : Cond.methodLink RL 179 yL_isBook ∈ pgWd := pg_in 454 (by decide +kernel)
theorem q_455 : Cond.static yL_isBook ∈ pgWd := pg_in 455 (by decide +kernel)
theorem q_456 : Cond.code yL_isBook cL_isBook 10 (some .boolean) ∈ pgWd := pg_in 456 (by decide +kernel)
theorem q_457 : Cond.methodLink RL 98 yX2_disks ∈ pgWd := pg_in 457 (by decide +kernel)
theorem q_458 : Cond.instanceMethod yX2_disks ∈ pgWd := pg_in 458 (by decide +kernel)
theorem q_459 : Cond.selects RX2 yX2_disks yX2_disks ∈ pgWd := pg_in 459 (by decide +kernel)
theorem q_460 : Cond.code yX2_disks cX2_disks 1 (some .int) ∈ pgWd := pg_in 460 (by decide +kernel)
theorem q_461 : Cond.methodLink RL 102 yX2_logged ∈ pgWd := pg_in 461 (by decide +kernel)
theorem q_462 : Cond.instanceMethod yX2_logged ∈ pgWd := pg_in 462 (by decide +kernel)
theorem q_463 : Cond.selects RX2 yX2_logged yX2_logged ∈ pgWd := pg_in 463 (by decide +kernel)
theorem q_464 : Cond.code yX2_logged cX2_logged 1 (some .int) ∈ pgWd := pg_in 464 (by decide +kernel)
theorem q_465 : Cond.methodLink RL 105 yX2_certificates ∈ pgWd := pg_in 465 (by decide +kernel)
theorem q_466 : Cond.instanceMethod yX2_certificates ∈ pgWd := pg_in 466 (by decide +kernel)
theorem q_467 : Cond.selects RX2 yX2_certificates yX2_certificates ∈ pgWd := pg_in 467 (by decide +kernel)
theorem q_468 : Cond.code yX2_certificates cX2_certificates 1 (some .int) ∈ pgWd := pg_in 468 (by decide +kernel)
theorem q_469 : Cond.methodLink RL 108 yX2_oddCounts ∈ pgWd := pg_in 469 (by decide +kernel)
theorem q_470 : Cond.instanceMethod yX2_oddCounts ∈ pgWd := pg_in 470 (by decide +kernel)
theorem q_471 : Cond.selects RX2 yX2_oddCounts yX2_oddCounts ∈ pgWd := pg_in 471 (by decide +kernel)
theorem q_472 : Cond.code yX2_oddCounts cX2_oddCounts 1 (some .int) ∈ pgWd := pg_in 472 (by decide +kernel)
theorem q_473 : Cond.methodLink RL 111 yX2_keeperByLog ∈ pgWd := pg_in 473 (by decide +kernel)
theorem q_474 : Cond.instanceMethod yX2_keeperByLog ∈ pgWd := pg_in 474 (by decide +kernel)
theorem q_475 : Cond.selects RX2 yX2_keeperByLog yX2_keeperByLog ∈ pgWd := pg_in 475 (by decide +kernel)
theorem q_476 : Cond.code yX2_keeperByLog cX2_keeperByLog 2 (some .int) ∈ pgWd := pg_in 476 (by decide +kernel)
theorem q_477 : Cond.methodLink RL 117 yX2_has ∈ pgWd := pg_in 477 (by decide +kernel)
theorem q_478 : Cond.instanceMethod yX2_has ∈ pgWd := pg_in 478 (by decide +kernel)
theorem q_479 : Cond.selects RX2 yX2_has yX2_has ∈ pgWd := pg_in 479 (by decide +kernel)
theorem q_480 : Cond.code yX2_has cX2_has 7 (some .int) ∈ pgWd := pg_in 480 (by decide +kernel)
theorem q_481 : Cond.methodLink RL 120 yX2_missing ∈ pgWd := pg_in 481 (by decide +kernel)
theorem q_482 : Cond.instanceMethod yX2_missing ∈ pgWd := pg_in 482 (by decide +kernel)
theorem q_483 : Cond.selects RX2 yX2_missing yX2_missing ∈ pgWd := pg_in 483 (by decide +kernel)
theorem q_484 : Cond.code yX2_missing cX2_missing 6 (some .int) ∈ pgWd := pg_in 484 (by decide +kernel)
theorem q_p1 : Cond.selects RX2 yX2_handOver yX2_handOver ∈ pgWd := pg_inP 1 (by decide +kernel)
theorem q_p2 : Cond.selects RX2 yX2_findDisk yX2_findDisk ∈ pgWd := pg_inP 2 (by decide +kernel)
theorem q_p3 : Cond.selects RX2 yX2_findCrate yX2_findCrate ∈ pgWd := pg_inP 3 (by decide +kernel)
theorem q_p4 : Cond.selects RX2 yX2_countDisksIn yX2_countDisksIn ∈ pgWd := pg_inP 4 (by decide +kernel)
theorem q_p5 : Cond.selects RX2 yX2_handOverDisksIn yX2_handOverDisksIn ∈ pgWd := pg_inP 5 (by decide +kernel)
theorem pgX0 : ∀ w ∈ u_ws RX0 TX0 4, w ∈ pgWd := pg_ins [38, 40, 42, 44] (by decide +kernel)
theorem pgX1 : ∀ w ∈ u_ws RX1 TX1 11, w ∈ pgWd := pg_ins [214, 216, 218, 220, 222, 224, 226, 228, 230, 232, 234] (by decide +kernel)
theorem pgX2 : ∀ w ∈ u_ws RX2 TX2 7, w ∈ pgWd := pg_ins [54, 56, 58, 60, 62, 64, 66] (by decide +kernel)
theorem pgTI : ∀ w ∈ (vx_atS RX2 188 "java/lang/IndexOutOfBoundsException" ["java/lang/RuntimeException", "java/lang/Exception"]).filter goodWord, w ∈ pgWd := pg_ins [3, 108, 117, 122, 125, 127, 109, 110, 20, 21, 111, 116, 123, 143, 98, 144, 100, 145, 102, 112, 114, 104, 139, 140, 142, 104, 130, 131, 132, 133, 133, 134, 135, 136, 136, 137, 138, 139, 129, 87, 95, 96, 97, 99, 101, 103, 107, 106, 105] (by decide +kernel)
theorem pgTA : ∀ w ∈ (vx_atS RX2 31 "java/lang/IllegalArgumentException" ["java/lang/RuntimeException", "java/lang/Exception"]).filter goodWord, w ∈ pgWd := pg_ins [3, 108, 117, 122, 125, 127, 109, 110, 20, 21, 111, 116, 123, 143, 98, 144, 100, 145, 102, 112, 114, 104, 139, 140, 142, 104, 168, 169, 170, 133, 133, 134, 135, 136, 136, 137, 138, 139, 167, 158, 160, 119, 161, 162, 163, 164, 107, 106, 165] (by decide +kernel)
theorem pgTS : ∀ w ∈ (vx_atS RX2 42 "java/lang/IllegalStateException" ["java/lang/RuntimeException", "java/lang/Exception"]).filter goodWord, w ∈ pgWd := pg_ins [3, 108, 117, 122, 125, 127, 109, 110, 20, 21, 111, 116, 123, 143, 98, 144, 100, 145, 102, 112, 114, 104, 139, 140, 142, 104, 184, 185, 186, 133, 133, 134, 135, 136, 136, 137, 138, 139, 183, 174, 176, 120, 177, 178, 179, 180, 107, 106, 181] (by decide +kernel)
end
section
def pgStr : List (Nat × String) := [(191, "there is no such keeper"), (29, "kind or secrecy is out of range"), (40, "no more disks can be brought"), (186, "there is no such disk"), (57, "the disk is offered to its keeper"), (193, "the disk is missing, offered or in a crate"), (70, "the disk is missing or not offered"), (189, "there is no such crate"), (81, "the crate is sealed or with another keeper"), (91, "the disk is missing, in no crate or in a sealed one"), (99, "the crate is sealed or no more seals can be made"), (107, "the count is out of range"), (109, "the crate is open"), (114, "the crate is carried to its keeper"), (116, "the crate is open and has disks"), (122, "there is no such way"), (200, "the witness is the keeper of the disk"), (198, "the disk is missing, offered or in a sealed crate"), (133, "the disk is wiped or broken"), (147, "the disk is broken"), (149, "the witness wiped the disk"), (151, "the disk is not wiped"), (153, "the disk is missing"), (155, "the disk is not missing"), (172, "no disk would be on the certificate")]
abbrev pgEI : String := "java/lang/IndexOutOfBoundsException"
abbrev pgEA : String := "java/lang/IllegalArgumentException"
abbrev pgES : String := "java/lang/IllegalStateException"
abbrev pgEN : String := "java/util/NoSuchElementException"
abbrev pgNm : List String := ["java/lang/RuntimeException", "java/lang/Exception"]
def pgInitS (X : String) : MethodName := ⟨X, "<init>", "(Ljava/lang/String;)V"⟩
/-- the words of a throw that the tables alone decide but that aren't kept by themselves -/
def pgNw : List Cond := [.castable pgEI pgEI, .castable pgEA pgEA, .castable pgES pgES, .castable pgEN pgEN, .declares (pgInitS "java/lang/RuntimeException"), .declares (pgInitS "java/lang/Exception"), .declares (pgInitS "java/lang/Throwable")]
def pgNC : List (String × String) := [(pgEA, pgES), (pgEN, pgES), (pgEN, pgEA)]
/-- which exception a code names -/
def pgExn (k : Nat) : String := if k = 1 then pgEI else if k = 2 then pgEA else if k = 3 then pgES else pgEN
/-- what every method of ours needs of the state around it -/
def pgE (D : va_G) (tys : List (ClassId × FieldType)) (A : Nat → Prop) (U : State) : Prop :=
  va_K D vwCl tys U ∧ (vx_Zq Bundle.tN "UNASSIGNED_STACK" Bundle.steD A U U.heap ∧ vx_Zq Bundle.tN "SUPPRESSED_SENTINEL" Bundle.listD A U U.heap) ∧ (∀ q ∈ pgStr, ∃ sa : Nat, vk_R RX2 q.1 q.2 sa U) ∧ (∀ w ∈ pgNw, va_Nw w U) ∧ ((∀ q ∈ pgNC, va_Nc q.1 q.2 U) ∧ va_AO RX1 U ∧ va_AO RX0 U) ∧ (∀ q : Nat, U.heap.size ≤ q → A q)
theorem pgNw_moved {s U : State} (hW : s.WarmedH U.vm) (h : ∀ w ∈ pgNw, va_Nw w s) : ∀ w ∈ pgNw, va_Nw w U := by
  intro w hw
  have h1 := h w hw
  simp only [pgNw, List.mem_cons, List.not_mem_nil, or_false] at hw
  rcases hw with rfl | rfl | rfl | rfl | rfl | rfl | rfl
  · exact va_Nw.warmC hW h1
  · exact va_Nw.warmC hW h1
  · exact va_Nw.warmC hW h1
  · exact va_Nw.warmC hW h1
  · exact va_Nw.warmD hW h1
  · exact va_Nw.warmD hW h1
  · exact va_Nw.warmD hW h1
theorem pgE.at {D : va_G} {tys : List (ClassId × FieldType)} {A : Nat → Prop} {s U : State} {H : Heap} {locs : List Loc} (h : pgE D tys A s) (hS : va_S A s.heap H locs) (hU : U.heap = H) (hW : s.WarmedH U.vm) : pgE D tys A U := by
  obtain ⟨h1, ⟨h2, h3⟩, h4, h5, h6, h7⟩ := h
  refine ⟨va_K.moved hW.alike h1, ⟨?_, ?_⟩, fun q hq => ?_, pgNw_moved hW h5, ⟨fun q hq => va_Nc.moved hW.alike (h6.1 q hq), va_AO.moved hW.alike h6.2.1, va_AO.moved hW.alike h6.2.2⟩, fun q hq => h7 q (Nat.le_trans hS.1 (by rw [← hU]; exact hq))⟩
  · rw [hU]; exact vx_Zq.moved hW.alike (h2.kept hS.2.1)
  · rw [hU]; exact vx_Zq.moved hW.alike (h3.kept hS.2.1)
  · obtain ⟨sa, h⟩ := h4 q hq
    exact ⟨sa, vk_R.warm hW h⟩
theorem pgE.narrow {D : va_G} {tys : List (ClassId × FieldType)} {A B : Nat → Prop} {U : State} (h : pgE D tys A U) (hAB : ∀ q, B q → A q) (hN : ∀ q : Nat, U.heap.size ≤ q → B q) : pgE D tys B U := ⟨h.1, ⟨h.2.1.1.narrow hAB, h.2.1.2.narrow hAB⟩, h.2.2.1, h.2.2.2.1, h.2.2.2.2.1, hN⟩
theorem pgE.tys {D : va_G} {tys tys' : List (ClassId × FieldType)} {A : Nat → Prop} {U : State} (h : pgE D tys A U) (hK : va_K D vwCl tys' U) : pgE D tys' A U := ⟨hK, h.2⟩
/-- a method's start: its arguments, the state around it, its world -/
abbrev pgPc (D : va_G) (tys : List (ClassId × FieldType)) (A : Nat → Prop) (Wd : Heap → Prop) (av : List Value) : Array Value → State → Prop := va_Pc av (fun U => pgE D tys A U ∧ Wd U.heap)
theorem pgBlind {D : va_G} {tys : List (ClassId × FieldType)} {A : Nat → Prop} {Wd : Heap → Prop} {av : List Value} : FrameBlind (pgPc D tys A Wd av) := by
  intro a U g mk h
  obtain ⟨h0, ⟨h1, ⟨h2, h3⟩, h4, h5, h6, h7⟩, h8⟩ := h
  have hvm : U.vm.Alike (U.calling g mk a).vm := Vm.Alike.refl U.vm
  refine ⟨h0, ⟨va_K.moved (u := U) (U := U.calling g mk a) hvm h1, ⟨vx_Zq.moved (u := U) (U := U.calling g mk a) hvm h2, vx_Zq.moved (u := U) (U := U.calling g mk a) hvm h3⟩, fun q hq => ?_, fun w hw => ?_, ⟨fun q hq => va_Nc.moved (u := U) (U := U.calling g mk a) hvm (h6.1 q hq), va_AO.moved (u := U) (U := U.calling g mk a) hvm h6.2.1, va_AO.moved (u := U) (U := U.calling g mk a) hvm h6.2.2⟩, h7⟩, h8⟩
  · obtain ⟨sa, h⟩ := h4 q hq
    exact ⟨sa, vk_R.same (u := U) (U := U.calling g mk a) rfl h⟩
  · have hon : w.onTables = true := by
      simp only [pgNw, List.mem_cons, List.not_mem_nil, or_false] at hw
      rcases hw with rfl | rfl | rfl | rfl | rfl | rfl | rfl <;> rfl
    exact va_Nw.same (u := U) (U := U.calling g mk a) hon rfl (h5 w hw)
/-- where a method of ours throws: which code, and the world -/
abbrev pgX (A : Nat → Prop) (px : Nat → Prop) (Wd : Heap → Prop) : String → State → State → Prop := vx_X px (fun E k t => E = pgExn k ∧ Wd t.heap) A
/-- what is known all along a body -/
def pgB (p : Program) (m : MethodId) (c : Code) (s : State) (args : Array Value) (meth : Method) (own : String) (cc : ByteArray) (nL : Nat) (D : va_G) (tys : List (ClassId × FieldType)) (A : Nat → Prop) : Prop :=
  p.tables.exec = Jvm.exec ∧ c.code = cc ∧ c.maxLocals = nL ∧ s.vm.findClass own = some m.cls ∧ (∀ w ∈ pgWd, w.before args s = true) ∧ meth.locks = false ∧ pgE D tys A s
/-- from every heap with this world, these locals and this stack the machine, at pc, comes to Q -/
def pgJ (p : Program) (l : Launch) (e : Env) (R : Room) (s : State) (m : MethodId) (args : Array Value) (below : List Frame) (meth : Method) (c : Code) (nL : Nat) (A : Nat → Prop) (Wd : Heap → Prop) (cells slots : Nat) (Q : State → Prop) (pc : Nat) (L : List (Nat × Value)) (st : List Value) : Prop :=
  ∀ (H : Heap) (locs : List Loc) (ls : Array Slot), va_S A s.heap H locs → Wd H → lv_has ls nL L → W p l e R s m args below meth c H locs cells slots Q (F0 m pc ls st)
section PGJ
variable {p : Program} {l : Launch} {e : Env} {R : Room} {s : State} {m : MethodId} {args : Array Value} {below : List Frame} {meth : Method} {c : Code} {own : String} {cc : ByteArray} {nL : Nat} {D : va_G} {tys : List (ClassId × FieldType)} {A : Nat → Prop} {Wd Wd' : Heap → Prop} {cells slots : Nat} {Q : State → Prop} {pc : Nat} {L L' : List (Nat × Value)} {st stk : List Value}
theorem j_iload_n (B : pgB p m c s args meth own cc nL D tys A) {k : Fin 4} {i : Nat} {x : Int32} (hdg : decode cc pc = .ok (.iload_n k, 1)) (pl : Nat) (hL : L[pl]? = some (i, .int x)) (hi : (k : Nat) = i) (kk : pgJ p l e R s m args below meth c nL A (Wd) (cells) (slots) (Q) (pc + 1) (L) (.int x :: st)) : pgJ p l e R s m args below meth c nL A (Wd) (cells) (slots) (Q) (pc) (L) (st) := fun H locs ls hS hW hl => lv_iload_n B.1 B.2.1 hdg hi (lv_at hl pl hL) (kk H locs ls hS hW hl)
theorem j_iload (B : pgB p m c s args meth own cc nL D tys A) {i : Nat} {x : Int32} (hdg : decode cc pc = .ok (.iload i, 2)) (pl : Nat) (hL : L[pl]? = some (i, .int x)) (kk : pgJ p l e R s m args below meth c nL A (Wd) (cells) (slots) (Q) (pc + 2) (L) (.int x :: st)) : pgJ p l e R s m args below meth c nL A (Wd) (cells) (slots) (Q) (pc) (L) (st) := fun H locs ls hS hW hl => lv_iload B.1 B.2.1 hdg (lv_at hl pl hL) (kk H locs ls hS hW hl)
theorem j_aload_n (B : pgB p m c s args meth own cc nL D tys A) {k : Fin 4} {i : Nat} {x : Nat} (hdg : decode cc pc = .ok (.aload_n k, 1)) (pl : Nat) (hL : L[pl]? = some (i, .ref x)) (hi : (k : Nat) = i) (kk : pgJ p l e R s m args below meth c nL A (Wd) (cells) (slots) (Q) (pc + 1) (L) (.ref x :: st)) : pgJ p l e R s m args below meth c nL A (Wd) (cells) (slots) (Q) (pc) (L) (st) := fun H locs ls hS hW hl => lv_aload_n B.1 B.2.1 hdg hi (lv_at hl pl hL) (kk H locs ls hS hW hl)
theorem j_aload (B : pgB p m c s args meth own cc nL D tys A) {i : Nat} {x : Nat} (hdg : decode cc pc = .ok (.aload i, 2)) (pl : Nat) (hL : L[pl]? = some (i, .ref x)) (kk : pgJ p l e R s m args below meth c nL A (Wd) (cells) (slots) (Q) (pc + 2) (L) (.ref x :: st)) : pgJ p l e R s m args below meth c nL A (Wd) (cells) (slots) (Q) (pc) (L) (st) := fun H locs ls hS hW hl => lv_aload B.1 B.2.1 hdg (lv_at hl pl hL) (kk H locs ls hS hW hl)
theorem j_aload_nN (B : pgB p m c s args meth own cc nL D tys A) {k : Fin 4} {i : Nat} (hdg : decode cc pc = .ok (.aload_n k, 1)) (pl : Nat) (hL : L[pl]? = some (i, .null)) (hi : (k : Nat) = i) (kk : pgJ p l e R s m args below meth c nL A (Wd) (cells) (slots) (Q) (pc + 1) (L) (.null :: st)) : pgJ p l e R s m args below meth c nL A (Wd) (cells) (slots) (Q) (pc) (L) (st) := fun H locs ls hS hW hl => lv_aload_nN B.1 B.2.1 hdg hi (lv_at hl pl hL) (kk H locs ls hS hW hl)
theorem j_aloadN (B : pgB p m c s args meth own cc nL D tys A) {i : Nat} (hdg : decode cc pc = .ok (.aload i, 2)) (pl : Nat) (hL : L[pl]? = some (i, .null)) (kk : pgJ p l e R s m args below meth c nL A (Wd) (cells) (slots) (Q) (pc + 2) (L) (.null :: st)) : pgJ p l e R s m args below meth c nL A (Wd) (cells) (slots) (Q) (pc) (L) (st) := fun H locs ls hS hW hl => lv_aloadN B.1 B.2.1 hdg (lv_at hl pl hL) (kk H locs ls hS hW hl)
theorem j_iconst (B : pgB p m c s args meth own cc nL D tys A) {n : Int} {v : Int32} (hdg : decode cc pc = .ok (.iconst n, 1)) (hv : Int32.ofInt n = v) (kk : pgJ p l e R s m args below meth c nL A (Wd) (cells) (slots) (Q) (pc + 1) (L) (.int v :: st)) : pgJ p l e R s m args below meth c nL A (Wd) (cells) (slots) (Q) (pc) (L) (st) := fun H locs ls hS hW hl => lv_iconst B.1 B.2.1 hdg hv (kk H locs ls hS hW hl)
theorem j_bipush (B : pgB p m c s args meth own cc nL D tys A) {n : Int} {v : Int32} (hdg : decode cc pc = .ok (.bipush n, 2)) (hv : (Int8.ofInt n).toInt32 = v) (kk : pgJ p l e R s m args below meth c nL A (Wd) (cells) (slots) (Q) (pc + 2) (L) (.int v :: st)) : pgJ p l e R s m args below meth c nL A (Wd) (cells) (slots) (Q) (pc) (L) (st) := fun H locs ls hS hW hl => lv_bipush B.1 B.2.1 hdg hv (kk H locs ls hS hW hl)
theorem j_lconst (B : pgB p m c s args meth own cc nL D tys A) {n : Fin 2} {v : Int64} (hdg : decode cc pc = .ok (.lconst n, 1)) (hv : Int64.ofNat (n : Nat) = v) (kk : pgJ p l e R s m args below meth c nL A (Wd) (cells) (slots) (Q) (pc + 1) (L) (.long v :: st)) : pgJ p l e R s m args below meth c nL A (Wd) (cells) (slots) (Q) (pc) (L) (st) := fun H locs ls hS hW hl => lv_lconst B.1 B.2.1 hdg hv (kk H locs ls hS hW hl)
theorem j_null (B : pgB p m c s args meth own cc nL D tys A) (hdg : decode cc pc = .ok (.aconst_null, 1)) (kk : pgJ p l e R s m args below meth c nL A (Wd) (cells) (slots) (Q) (pc + 1) (L) (.null :: st)) : pgJ p l e R s m args below meth c nL A (Wd) (cells) (slots) (Q) (pc) (L) (st) := fun H locs ls hS hW hl => lv_null B.1 B.2.1 hdg (kk H locs ls hS hW hl)
theorem j_goto (B : pgB p m c s args meth own cc nL D tys A) {off : Int} (tgt : Nat) (hdg : decode cc pc = .ok (.goto off, 3)) (ht : (pc : Int) + off = (tgt : Int)) (kk : pgJ p l e R s m args below meth c nL A (Wd) (cells) (slots) (Q) (tgt) (L) (st)) : pgJ p l e R s m args below meth c nL A (Wd) (cells) (slots) (Q) (pc) (L) (st) := fun H locs ls hS hW hl => lv_goto B.1 B.2.1 hdg ht (kk H locs ls hS hW hl)
theorem j_iadd (B : pgB p m c s args meth own cc nL D tys A) {x y : Int32} (hdg : decode cc pc = .ok (.iadd, 1)) (kk : pgJ p l e R s m args below meth c nL A (Wd) (cells) (slots) (Q) (pc + 1) (L) (.int (x + y) :: st)) : pgJ p l e R s m args below meth c nL A (Wd) (cells) (slots) (Q) (pc) (L) (.int y :: .int x :: st) := fun H locs ls hS hW hl => lv_iadd B.1 B.2.1 hdg (kk H locs ls hS hW hl)
theorem j_isub (B : pgB p m c s args meth own cc nL D tys A) {x y : Int32} (hdg : decode cc pc = .ok (.isub, 1)) (kk : pgJ p l e R s m args below meth c nL A (Wd) (cells) (slots) (Q) (pc + 1) (L) (.int (x - y) :: st)) : pgJ p l e R s m args below meth c nL A (Wd) (cells) (slots) (Q) (pc) (L) (.int y :: .int x :: st) := fun H locs ls hS hW hl => lv_isub B.1 B.2.1 hdg (kk H locs ls hS hW hl)
theorem j_iand (B : pgB p m c s args meth own cc nL D tys A) {x y : Int32} (hdg : decode cc pc = .ok (.iand, 1)) (kk : pgJ p l e R s m args below meth c nL A (Wd) (cells) (slots) (Q) (pc + 1) (L) (.int (x &&& y) :: st)) : pgJ p l e R s m args below meth c nL A (Wd) (cells) (slots) (Q) (pc) (L) (.int y :: .int x :: st) := fun H locs ls hS hW hl => lv_iand B.1 B.2.1 hdg (kk H locs ls hS hW hl)
theorem j_i2l (B : pgB p m c s args meth own cc nL D tys A) {x : Int32} (hdg : decode cc pc = .ok (.i2l, 1)) (kk : pgJ p l e R s m args below meth c nL A (Wd) (cells) (slots) (Q) (pc + 1) (L) (.long x.toInt64 :: st)) : pgJ p l e R s m args below meth c nL A (Wd) (cells) (slots) (Q) (pc) (L) (.int x :: st) := fun H locs ls hS hW hl => lv_i2l B.1 B.2.1 hdg rfl (kk H locs ls hS hW hl)
theorem j_lcmp (B : pgB p m c s args meth own cc nL D tys A) {x y : Int64} (hdg : decode cc pc = .ok (.lcmp, 1)) (kk : pgJ p l e R s m args below meth c nL A (Wd) (cells) (slots) (Q) (pc + 1) (L) (.int (lg_cmp x y) :: st)) : pgJ p l e R s m args below meth c nL A (Wd) (cells) (slots) (Q) (pc) (L) (.long y :: .long x :: st) := fun H locs ls hS hW hl => W.lcmp B.1 B.2.1 hdg (kk H locs ls hS hW hl)
theorem j_dup (B : pgB p m c s args meth own cc nL D tys A) {va : Value} (hdg : decode cc pc = .ok (.dup, 1)) (hva : va.category = 1) (kk : pgJ p l e R s m args below meth c nL A (Wd) (cells) (slots) (Q) (pc + 1) (L) (va :: va :: st)) : pgJ p l e R s m args below meth c nL A (Wd) (cells) (slots) (Q) (pc) (L) (va :: st) := fun H locs ls hS hW hl => lv_dup B.1 B.2.1 hdg hva (kk H locs ls hS hW hl)
theorem j_ifnonnull (B : pgB p m c s args meth own cc nL D tys A) {x : Nat} {off : Int} (tgt : Nat) (hdg : decode cc pc = .ok (.ifnonnull off, 3)) (ht : (pc : Int) + off = (tgt : Int)) (kk : pgJ p l e R s m args below meth c nL A (Wd) (cells) (slots) (Q) (tgt) (L) (st)) : pgJ p l e R s m args below meth c nL A (Wd) (cells) (slots) (Q) (pc) (L) (.ref x :: st) := fun H locs ls hS hW hl => lv_ifnonnull B.1 B.2.1 hdg ht (kk H locs ls hS hW hl)
theorem j_ifnonnullN (B : pgB p m c s args meth own cc nL D tys A) {off : Int} (hdg : decode cc pc = .ok (.ifnonnull off, 3)) (kk : pgJ p l e R s m args below meth c nL A (Wd) (cells) (slots) (Q) (pc + 3) (L) (st)) : pgJ p l e R s m args below meth c nL A (Wd) (cells) (slots) (Q) (pc) (L) (.null :: st) := fun H locs ls hS hW hl => lv_ifnonnullN B.1 B.2.1 hdg (kk H locs ls hS hW hl)
theorem j_ifnull (B : pgB p m c s args meth own cc nL D tys A) {x : Nat} {off : Int} (hdg : decode cc pc = .ok (.ifnull off, 3)) (kk : pgJ p l e R s m args below meth c nL A (Wd) (cells) (slots) (Q) (pc + 3) (L) (st)) : pgJ p l e R s m args below meth c nL A (Wd) (cells) (slots) (Q) (pc) (L) (.ref x :: st) := fun H locs ls hS hW hl => lv_ifnull B.1 B.2.1 hdg (kk H locs ls hS hW hl)
theorem j_ifnullN (B : pgB p m c s args meth own cc nL D tys A) {off : Int} (tgt : Nat) (hdg : decode cc pc = .ok (.ifnull off, 3)) (ht : (pc : Int) + off = (tgt : Int)) (kk : pgJ p l e R s m args below meth c nL A (Wd) (cells) (slots) (Q) (tgt) (L) (st)) : pgJ p l e R s m args below meth c nL A (Wd) (cells) (slots) (Q) (pc) (L) (.null :: st) := fun H locs ls hS hW hl => lv_ifnullN B.1 B.2.1 hdg ht (kk H locs ls hS hW hl)
theorem j_istore_n (B : pgB p m c s args meth own cc nL D tys A) {k : Fin 4} {i : Nat} {x : Int32} (hdg : decode cc pc = .ok (.istore_n k, 1)) (hi : (k : Nat) = i) (hn : i < nL) (hL : (i, Value.int x) :: L.filter (fun q => !(q.1 == i) && !(q.1 + 1 == i && q.2.category == 2)) = L') (kk : pgJ p l e R s m args below meth c nL A (Wd) (cells) (slots) (Q) (pc + 1) (L') (st)) : pgJ p l e R s m args below meth c nL A (Wd) (cells) (slots) (Q) (pc) (L) (Value.int x :: st) := fun H locs ls hS hW hl => lv_istore_n B.1 B.2.1 hdg hi hl hn hL (fun ls2 hl2 => kk H locs ls2 hS hW hl2)
theorem j_istore (B : pgB p m c s args meth own cc nL D tys A) {i : Nat} {x : Int32} (hdg : decode cc pc = .ok (.istore i, 2)) (hn : i < nL) (hL : (i, Value.int x) :: L.filter (fun q => !(q.1 == i) && !(q.1 + 1 == i && q.2.category == 2)) = L') (kk : pgJ p l e R s m args below meth c nL A (Wd) (cells) (slots) (Q) (pc + 2) (L') (st)) : pgJ p l e R s m args below meth c nL A (Wd) (cells) (slots) (Q) (pc) (L) (Value.int x :: st) := fun H locs ls hS hW hl => lv_istore B.1 B.2.1 hdg hl hn hL (fun ls2 hl2 => kk H locs ls2 hS hW hl2)
theorem j_astore_n (B : pgB p m c s args meth own cc nL D tys A) {k : Fin 4} {i : Nat} {x : Nat} (hdg : decode cc pc = .ok (.astore_n k, 1)) (hi : (k : Nat) = i) (hn : i < nL) (hL : (i, Value.ref x) :: L.filter (fun q => !(q.1 == i) && !(q.1 + 1 == i && q.2.category == 2)) = L') (kk : pgJ p l e R s m args below meth c nL A (Wd) (cells) (slots) (Q) (pc + 1) (L') (st)) : pgJ p l e R s m args below meth c nL A (Wd) (cells) (slots) (Q) (pc) (L) (Value.ref x :: st) := fun H locs ls hS hW hl => lv_astore_n B.1 B.2.1 hdg hi hl hn hL (fun ls2 hl2 => kk H locs ls2 hS hW hl2)
theorem j_astore (B : pgB p m c s args meth own cc nL D tys A) {i : Nat} {x : Nat} (hdg : decode cc pc = .ok (.astore i, 2)) (hn : i < nL) (hL : (i, Value.ref x) :: L.filter (fun q => !(q.1 == i) && !(q.1 + 1 == i && q.2.category == 2)) = L') (kk : pgJ p l e R s m args below meth c nL A (Wd) (cells) (slots) (Q) (pc + 2) (L') (st)) : pgJ p l e R s m args below meth c nL A (Wd) (cells) (slots) (Q) (pc) (L) (Value.ref x :: st) := fun H locs ls hS hW hl => lv_astore B.1 B.2.1 hdg hl hn hL (fun ls2 hl2 => kk H locs ls2 hS hW hl2)
theorem j_astore_nN (B : pgB p m c s args meth own cc nL D tys A) {k : Fin 4} {i : Nat} (hdg : decode cc pc = .ok (.astore_n k, 1)) (hi : (k : Nat) = i) (hn : i < nL) (hL : (i, Value.null) :: L.filter (fun q => !(q.1 == i) && !(q.1 + 1 == i && q.2.category == 2)) = L') (kk : pgJ p l e R s m args below meth c nL A (Wd) (cells) (slots) (Q) (pc + 1) (L') (st)) : pgJ p l e R s m args below meth c nL A (Wd) (cells) (slots) (Q) (pc) (L) (Value.null :: st) := fun H locs ls hS hW hl => lv_astore_nN B.1 B.2.1 hdg hi hl hn hL (fun ls2 hl2 => kk H locs ls2 hS hW hl2)
theorem j_astoreN (B : pgB p m c s args meth own cc nL D tys A) {i : Nat} (hdg : decode cc pc = .ok (.astore i, 2)) (hn : i < nL) (hL : (i, Value.null) :: L.filter (fun q => !(q.1 == i) && !(q.1 + 1 == i && q.2.category == 2)) = L') (kk : pgJ p l e R s m args below meth c nL A (Wd) (cells) (slots) (Q) (pc + 2) (L') (st)) : pgJ p l e R s m args below meth c nL A (Wd) (cells) (slots) (Q) (pc) (L) (Value.null :: st) := fun H locs ls hS hW hl => lv_astoreN B.1 B.2.1 hdg hl hn hL (fun ls2 hl2 => kk H locs ls2 hS hW hl2)
theorem j_iinc (B : pgB p m c s args meth own cc nL D tys A) {i : Nat} {n : Int} {x v : Int32} (hdg : decode cc pc = .ok (.iinc i n, 3)) (pl : Nat) (hk : L[pl]? = some (i, .int x)) (hv : x + Int32.ofInt n = v) (hn : i < nL) (hL : (i, Value.int v) :: L.filter (fun q => !(q.1 == i) && !(q.1 + 1 == i && q.2.category == 2)) = L') (kk : pgJ p l e R s m args below meth c nL A (Wd) (cells) (slots) (Q) (pc + 3) (L') (st)) : pgJ p l e R s m args below meth c nL A (Wd) (cells) (slots) (Q) (pc) (L) (st) := fun H locs ls hS hW hl => lv_iinc B.1 B.2.1 hdg hl hk hv hn hL (fun ls2 hl2 => kk H locs ls2 hS hW hl2)
theorem j_if_eq (B : pgB p m c s args meth own cc nL D tys A) {x : Int32} {off : Int} (tgt : Nat) (hdg : decode cc pc = .ok (.ifCond .eq off, 3)) (ht : (pc : Int) + off = (tgt : Int)) (kt : x = 0 → pgJ p l e R s m args below meth c nL A (Wd) (cells) (slots) (Q) (tgt) (L) (st)) (kf : ¬ x = 0 → pgJ p l e R s m args below meth c nL A (Wd) (cells) (slots) (Q) (pc + 3) (L) (st)) : pgJ p l e R s m args below meth c nL A (Wd) (cells) (slots) (Q) (pc) (L) (.int x :: st) := fun H locs ls hS hW hl => lv_if_eq B.1 B.2.1 hdg ht (fun h => kt h H locs ls hS hW hl) (fun h => kf h H locs ls hS hW hl)
theorem j_if_ne (B : pgB p m c s args meth own cc nL D tys A) {x : Int32} {off : Int} (tgt : Nat) (hdg : decode cc pc = .ok (.ifCond .ne off, 3)) (ht : (pc : Int) + off = (tgt : Int)) (kt : ¬ x = 0 → pgJ p l e R s m args below meth c nL A (Wd) (cells) (slots) (Q) (tgt) (L) (st)) (kf : x = 0 → pgJ p l e R s m args below meth c nL A (Wd) (cells) (slots) (Q) (pc + 3) (L) (st)) : pgJ p l e R s m args below meth c nL A (Wd) (cells) (slots) (Q) (pc) (L) (.int x :: st) := fun H locs ls hS hW hl => lv_if_ne B.1 B.2.1 hdg ht (fun h => kt h H locs ls hS hW hl) (fun h => kf h H locs ls hS hW hl)
theorem j_if_lt (B : pgB p m c s args meth own cc nL D tys A) {x : Int32} {off : Int} (tgt : Nat) (hdg : decode cc pc = .ok (.ifCond .lt off, 3)) (ht : (pc : Int) + off = (tgt : Int)) (kt : x < 0 → pgJ p l e R s m args below meth c nL A (Wd) (cells) (slots) (Q) (tgt) (L) (st)) (kf : ¬ x < 0 → pgJ p l e R s m args below meth c nL A (Wd) (cells) (slots) (Q) (pc + 3) (L) (st)) : pgJ p l e R s m args below meth c nL A (Wd) (cells) (slots) (Q) (pc) (L) (.int x :: st) := fun H locs ls hS hW hl => lv_if_lt B.1 B.2.1 hdg ht (fun h => kt h H locs ls hS hW hl) (fun h => kf h H locs ls hS hW hl)
theorem j_if_ge (B : pgB p m c s args meth own cc nL D tys A) {x : Int32} {off : Int} (tgt : Nat) (hdg : decode cc pc = .ok (.ifCond .ge off, 3)) (ht : (pc : Int) + off = (tgt : Int)) (kt : 0 ≤ x → pgJ p l e R s m args below meth c nL A (Wd) (cells) (slots) (Q) (tgt) (L) (st)) (kf : ¬ 0 ≤ x → pgJ p l e R s m args below meth c nL A (Wd) (cells) (slots) (Q) (pc + 3) (L) (st)) : pgJ p l e R s m args below meth c nL A (Wd) (cells) (slots) (Q) (pc) (L) (.int x :: st) := fun H locs ls hS hW hl => lv_if_ge B.1 B.2.1 hdg ht (fun h => kt h H locs ls hS hW hl) (fun h => kf h H locs ls hS hW hl)
theorem j_if_gt (B : pgB p m c s args meth own cc nL D tys A) {x : Int32} {off : Int} (tgt : Nat) (hdg : decode cc pc = .ok (.ifCond .gt off, 3)) (ht : (pc : Int) + off = (tgt : Int)) (kt : 0 < x → pgJ p l e R s m args below meth c nL A (Wd) (cells) (slots) (Q) (tgt) (L) (st)) (kf : ¬ 0 < x → pgJ p l e R s m args below meth c nL A (Wd) (cells) (slots) (Q) (pc + 3) (L) (st)) : pgJ p l e R s m args below meth c nL A (Wd) (cells) (slots) (Q) (pc) (L) (.int x :: st) := fun H locs ls hS hW hl => lv_if_gt B.1 B.2.1 hdg ht (fun h => kt h H locs ls hS hW hl) (fun h => kf h H locs ls hS hW hl)
theorem j_if_le (B : pgB p m c s args meth own cc nL D tys A) {x : Int32} {off : Int} (tgt : Nat) (hdg : decode cc pc = .ok (.ifCond .le off, 3)) (ht : (pc : Int) + off = (tgt : Int)) (kt : x ≤ 0 → pgJ p l e R s m args below meth c nL A (Wd) (cells) (slots) (Q) (tgt) (L) (st)) (kf : ¬ x ≤ 0 → pgJ p l e R s m args below meth c nL A (Wd) (cells) (slots) (Q) (pc + 3) (L) (st)) : pgJ p l e R s m args below meth c nL A (Wd) (cells) (slots) (Q) (pc) (L) (.int x :: st) := fun H locs ls hS hW hl => lv_if_le B.1 B.2.1 hdg ht (fun h => kt h H locs ls hS hW hl) (fun h => kf h H locs ls hS hW hl)
theorem j_icmp_eq (B : pgB p m c s args meth own cc nL D tys A) {x y : Int32} {off : Int} (tgt : Nat) (hdg : decode cc pc = .ok (.if_icmp .eq off, 3)) (ht : (pc : Int) + off = (tgt : Int)) (kt : x = y → pgJ p l e R s m args below meth c nL A (Wd) (cells) (slots) (Q) (tgt) (L) (st)) (kf : ¬ x = y → pgJ p l e R s m args below meth c nL A (Wd) (cells) (slots) (Q) (pc + 3) (L) (st)) : pgJ p l e R s m args below meth c nL A (Wd) (cells) (slots) (Q) (pc) (L) (.int y :: .int x :: st) := fun H locs ls hS hW hl => lv_icmp_eq B.1 B.2.1 hdg ht (fun h => kt h H locs ls hS hW hl) (fun h => kf h H locs ls hS hW hl)
theorem j_icmp_ne (B : pgB p m c s args meth own cc nL D tys A) {x y : Int32} {off : Int} (tgt : Nat) (hdg : decode cc pc = .ok (.if_icmp .ne off, 3)) (ht : (pc : Int) + off = (tgt : Int)) (kt : ¬ x = y → pgJ p l e R s m args below meth c nL A (Wd) (cells) (slots) (Q) (tgt) (L) (st)) (kf : x = y → pgJ p l e R s m args below meth c nL A (Wd) (cells) (slots) (Q) (pc + 3) (L) (st)) : pgJ p l e R s m args below meth c nL A (Wd) (cells) (slots) (Q) (pc) (L) (.int y :: .int x :: st) := fun H locs ls hS hW hl => lv_icmp_ne B.1 B.2.1 hdg ht (fun h => kt h H locs ls hS hW hl) (fun h => kf h H locs ls hS hW hl)
theorem j_icmp_lt (B : pgB p m c s args meth own cc nL D tys A) {x y : Int32} {off : Int} (tgt : Nat) (hdg : decode cc pc = .ok (.if_icmp .lt off, 3)) (ht : (pc : Int) + off = (tgt : Int)) (kt : x < y → pgJ p l e R s m args below meth c nL A (Wd) (cells) (slots) (Q) (tgt) (L) (st)) (kf : ¬ x < y → pgJ p l e R s m args below meth c nL A (Wd) (cells) (slots) (Q) (pc + 3) (L) (st)) : pgJ p l e R s m args below meth c nL A (Wd) (cells) (slots) (Q) (pc) (L) (.int y :: .int x :: st) := fun H locs ls hS hW hl => lv_icmp_lt B.1 B.2.1 hdg ht (fun h => kt h H locs ls hS hW hl) (fun h => kf h H locs ls hS hW hl)
theorem j_icmp_ge (B : pgB p m c s args meth own cc nL D tys A) {x y : Int32} {off : Int} (tgt : Nat) (hdg : decode cc pc = .ok (.if_icmp .ge off, 3)) (ht : (pc : Int) + off = (tgt : Int)) (kt : y ≤ x → pgJ p l e R s m args below meth c nL A (Wd) (cells) (slots) (Q) (tgt) (L) (st)) (kf : ¬ y ≤ x → pgJ p l e R s m args below meth c nL A (Wd) (cells) (slots) (Q) (pc + 3) (L) (st)) : pgJ p l e R s m args below meth c nL A (Wd) (cells) (slots) (Q) (pc) (L) (.int y :: .int x :: st) := fun H locs ls hS hW hl => lv_icmp_ge B.1 B.2.1 hdg ht (fun h => kt h H locs ls hS hW hl) (fun h => kf h H locs ls hS hW hl)
theorem j_icmp_gt (B : pgB p m c s args meth own cc nL D tys A) {x y : Int32} {off : Int} (tgt : Nat) (hdg : decode cc pc = .ok (.if_icmp .gt off, 3)) (ht : (pc : Int) + off = (tgt : Int)) (kt : y < x → pgJ p l e R s m args below meth c nL A (Wd) (cells) (slots) (Q) (tgt) (L) (st)) (kf : ¬ y < x → pgJ p l e R s m args below meth c nL A (Wd) (cells) (slots) (Q) (pc + 3) (L) (st)) : pgJ p l e R s m args below meth c nL A (Wd) (cells) (slots) (Q) (pc) (L) (.int y :: .int x :: st) := fun H locs ls hS hW hl => lv_icmp_gt B.1 B.2.1 hdg ht (fun h => kt h H locs ls hS hW hl) (fun h => kf h H locs ls hS hW hl)
theorem j_icmp_le (B : pgB p m c s args meth own cc nL D tys A) {x y : Int32} {off : Int} (tgt : Nat) (hdg : decode cc pc = .ok (.if_icmp .le off, 3)) (ht : (pc : Int) + off = (tgt : Int)) (kt : x ≤ y → pgJ p l e R s m args below meth c nL A (Wd) (cells) (slots) (Q) (tgt) (L) (st)) (kf : ¬ x ≤ y → pgJ p l e R s m args below meth c nL A (Wd) (cells) (slots) (Q) (pc + 3) (L) (st)) : pgJ p l e R s m args below meth c nL A (Wd) (cells) (slots) (Q) (pc) (L) (.int y :: .int x :: st) := fun H locs ls hS hW hl => lv_icmp_le B.1 B.2.1 hdg ht (fun h => kt h H locs ls hS hW hl) (fun h => kf h H locs ls hS hW hl)
theorem pg_one {ws : Nat × va_E} {H : Heap} (h : va_at D vwCl ws H) : va_P D vwCl [ws] H := fun k q hk => by
  have hz : k < 1 := (List.getElem?_eq_some_iff.mp hk).1
  rw [show k = 0 by omega] at hk
  cases hk
  exact h
theorem j_get (B : pgB p m c s args meth own cc nL D tys A) {C ref : String} {T : u_T} {N ci index : Nat} {a : Nat} {fs : List Value} {v : Value} (hin : ∀ w ∈ u_ws C T N, w ∈ pgWd) (hc : vwCl[ci]? = some (C, T, N)) (hat : ∀ H, Wd H → va_at D vwCl (a, .inr (ci, fs)) H) (k : Nat) (hk : k < N) (hq : Cond.fieldLink own index ref (T k).2.1 (T k).2.2.1 ∈ pgWd) (href : (T k).1 = ref) (hv : fs[k]? = some v) (hdg : decode cc pc = .ok (.getfield index, 3)) (kk : pgJ p l e R s m args below meth c nL A (Wd) (cells) (slots) (Q) (pc + 3) (L) (v :: st)) : pgJ p l e R s m args below meth c nL A (Wd) (cells) (slots) (Q) (pc) (L) (.ref a :: st) := fun H locs ls hS hW hl => va_get B.1 B.2.1 B.2.2.2.2.1 hin B.2.2.2.1 B.2.2.2.2.2.2.1 (pg_one (hat H hW)) 0 rfl hc k hk (B.2.2.2.2.1 _ hq) (fun x h => by rw [← href]; exact h) hv hdg (kk H locs ls hS hW hl)
theorem j_put (B : pgB p m c s args meth own cc nL D tys A) {C ref : String} {T : u_T} {N ci index : Nat} {a : Nat} {fs : List Value} {v : Value} {ty : FieldType} (hin : ∀ w ∈ u_ws C T N, w ∈ pgWd) (ty0 : Nat → FieldType) (hty : ∀ k, k < N → parseFieldDescriptor (T k).2.2.1 = some (ty0 k)) (hnm : ∀ a, a < N → ∀ b, b < N → a ≠ b → (T a).2.1 ≠ (T b).2.1) (hc : vwCl[ci]? = some (C, T, N)) (hat : ∀ H, Wd H → va_at D vwCl (a, .inr (ci, fs)) H) (k : Nat) (hk : k < N) (hq : Cond.fieldLink own index ref (T k).2.1 (T k).2.2.1 ∈ pgWd) (href : (T k).1 = ref) (hfin : (T k).2.2.2 = false) (hd : parseFieldDescriptor (T k).2.2.1 = some ty) (hn : narrow ty v = v) (hfit : fits ty v = true) (hl : k < fs.length) (hdg : decode cc pc = .ok (.putfield index, 3)) (hA : A a) (step : ∀ (H H1 : Heap), Wd H → va_at D vwCl (a, .inr (ci, fs.set k v)) H1 → H1.size = H.size → (∀ q : Nat, q ≠ a → H1[q]? = H[q]?) → Wd' H1) (kk : pgJ p l e R s m args below meth c nL A (Wd') (cells) (slots) (Q) (pc + 3) (L) (st)) : pgJ p l e R s m args below meth c nL A (Wd) (cells) (slots) (Q) (pc) (L) (v :: .ref a :: st) := by
  intro H locs ls hS hW hll
  obtain ⟨hx, hb, -, hown, hts, -, hE⟩ := B
  have hK := hE.1
  have hap := va_apart (own := own) hts hin ty0 hty hnm hK hc
  obtain ⟨r, h1, cell, q1, q2, q3, q4⟩ := hat H hW
  have hr : r = (C, T, N) := Option.some.inj (h1.symm.trans hc)
  subst hr
  obtain ⟨hSl, hfc, kC, hkC, hkind⟩ := hK.1 ci _ hc
  obtain ⟨cf, kf, fi, f, hi, hsl⟩ := hSl k hk
  have hlay := hts _ (hin _ (u_in_lay hk))
  unfold u_lay at hlay
  rw [if_neg (by rw [hfin]; decide)] at hlay
  have hst := (u_facts hfc hkC (u_lays hts hin hk) hi).1
  have h6 := u_store hfc hkC hkind hlay hi hd hn hfit
  refine W.putK hx hb (f := f) ⟨hown, hts _ hq, ⟨_, _, _, by rw [← href]; exact hi⟩, hst⟩ (by rw [q2]; exact h6) q1 q3 (by rw [hsl]; exact k2_hasslot (q4 k hk)) rfl rfl hdg fun H' e1 e2 e3 => ?_
  rw [hsl] at e1 ⊢
  exact kk H' _ ls (hS.put e2 e3 hA) (step H H' hW ⟨_, hc, t_OB.to (V := updV (vp_V fs) k v) ⟨_, e1, q2, q3, t_set q4 hap hk v⟩ (fun j _ => vp_updV_set hl v j)⟩ e2 e3) hll
theorem j_putF (B : pgB p m c s args meth own cc nL D tys A) {C ref : String} {T : u_T} {N ci index : Nat} {a : Nat} {fs : List Value} {v : Value} {ty : FieldType} (hin : ∀ w ∈ u_ws C T N, w ∈ pgWd) (ty0 : Nat → FieldType) (hty : ∀ k, k < N → parseFieldDescriptor (T k).2.2.1 = some (ty0 k)) (hnm : ∀ a, a < N → ∀ b, b < N → a ≠ b → (T a).2.1 ≠ (T b).2.1) (hc : vwCl[ci]? = some (C, T, N)) (hat : ∀ H, Wd H → va_at D vwCl (a, .inr (ci, fs)) H) (k : Nat) (hk : k < N) (hq : Cond.fieldLink own index ref (T k).2.1 (T k).2.2.1 ∈ pgWd) (href : (T k).1 = ref) (hfin : (T k).2.2.2 = true) (hin2 : meth.name = "<init>") (hdecl : (T k).1 = own) (hd : parseFieldDescriptor (T k).2.2.1 = some ty) (hn : narrow ty v = v) (hfit : fits ty v = true) (hl : k < fs.length) (hdg : decode cc pc = .ok (.putfield index, 3)) (hA : A a) (step : ∀ (H H1 : Heap), Wd H → va_at D vwCl (a, .inr (ci, fs.set k v)) H1 → H1.size = H.size → (∀ q : Nat, q ≠ a → H1[q]? = H[q]?) → Wd' H1) (kk : pgJ p l e R s m args below meth c nL A (Wd') (cells) (slots) (Q) (pc + 3) (L) (st)) : pgJ p l e R s m args below meth c nL A (Wd) (cells) (slots) (Q) (pc) (L) (v :: .ref a :: st) := by
  intro H locs ls hS hW hll
  obtain ⟨hx, hb, -, hown, hts, -, hE⟩ := B
  have hK := hE.1
  have hap := va_apart (own := own) hts hin ty0 hty hnm hK hc
  obtain ⟨r, h1, cell, q1, q2, q3, q4⟩ := hat H hW
  have hr : r = (C, T, N) := Option.some.inj (h1.symm.trans hc)
  subst hr
  obtain ⟨hSl, hfc, kC, hkC, hkind⟩ := hK.1 ci _ hc
  obtain ⟨cf, kf, fi, f, hi, hsl⟩ := hSl k hk
  have hlay := hts _ (hin _ (u_in_lay hk))
  unfold u_lay at hlay
  rw [if_pos hfin] at hlay
  have hst := (u_facts hfc hkC (u_lays hts hin hk) hi).1
  have hcf : m.cls = cf := by
    obtain ⟨_, _, c', _, _, _, -, -, hf', -, -, -, hown2, -⟩ := Cond.laysFinal_spec hlay
    have e1 : c' = cf := by have := hi.symm.trans hf'; simp at this; exact this.1.symm
    rw [hdecl] at hown2
    rw [← e1]; exact Option.some.inj (hown.symm.trans hown2)
  have h6 := u_fits hfc hkC hkind (Or.inr hlay) hi hd hn hfit
  refine W.putFinK hx hb hown (hts _ hq) (by rw [← href]; exact hi) hst hcf hin2 (by rw [q2]; exact h6) q1 q3 (by rw [hsl]; exact k2_hasslot (q4 k hk)) rfl rfl hdg fun H' e1 e2 e3 => ?_
  rw [hsl] at e1 ⊢
  exact kk H' _ ls (hS.put e2 e3 hA) (step H H' hW ⟨_, hc, t_OB.to (V := updV (vp_V fs) k v) ⟨_, e1, q2, q3, t_set q4 hap hk v⟩ (fun j _ => vp_updV_set hl v j)⟩ e2 e3) hll
theorem j_iald (B : pgB p m c s args meth own cc nL D tys A) {a n : Nat} {cA : ClassId} {f : Nat → Int32} (hat : ∀ H, Wd H → va_at D vwCl (a, .inl (cA, n, .inl f)) H) (t0 : Nat) (ht : tys[t0]? = some (cA, .int)) {i : Int32} (hin : vp_in i n) (hdg : decode cc pc = .ok (.iaload, 1)) (kk : pgJ p l e R s m args below meth c nL A (Wd) (cells) (slots) (Q) (pc + 1) (L) (.int (f i.toNatClampNeg) :: st)) : pgJ p l e R s m args below meth c nL A (Wd) (cells) (slots) (Q) (pc) (L) (.int i :: .ref a :: st) := fun H locs ls hS hW hl => va_iald B.1 B.2.1 B.2.2.2.2.2.2.1 (pg_one (hat H hW)) 0 t0 rfl ht hin hdg (kk H locs ls hS hW hl)
theorem j_zald (B : pgB p m c s args meth own cc nL D tys A) {a n : Nat} {cA : ClassId} {f : Nat → Int32} (hat : ∀ H, Wd H → va_at D vwCl (a, .inl (cA, n, .inl f)) H) (t0 : Nat) (ht : tys[t0]? = some (cA, .boolean)) {i : Int32} (hin : vp_in i n) (hdg : decode cc pc = .ok (.baload, 1)) (kk : pgJ p l e R s m args below meth c nL A (Wd) (cells) (slots) (Q) (pc + 1) (L) (.int (f i.toNatClampNeg) :: st)) : pgJ p l e R s m args below meth c nL A (Wd) (cells) (slots) (Q) (pc) (L) (.int i :: .ref a :: st) := fun H locs ls hS hW hl => va_zald B.1 B.2.1 B.2.2.2.2.2.2.1 (pg_one (hat H hW)) 0 t0 rfl ht hin hdg (kk H locs ls hS hW hl)
theorem j_lald (B : pgB p m c s args meth own cc nL D tys A) {a n : Nat} {cA : ClassId} {f : Nat → Int64} (hat : ∀ H, Wd H → va_at D vwCl (a, .inl (cA, n, .inr (.inl f))) H) (t0 : Nat) (ht : tys[t0]? = some (cA, .long)) {i : Int32} (hin : vp_in i n) (hdg : decode cc pc = .ok (.laload, 1)) (kk : pgJ p l e R s m args below meth c nL A (Wd) (cells) (slots) (Q) (pc + 1) (L) (.long (f i.toNatClampNeg) :: st)) : pgJ p l e R s m args below meth c nL A (Wd) (cells) (slots) (Q) (pc) (L) (.int i :: .ref a :: st) := fun H locs ls hS hW hl => va_lald B.1 B.2.1 B.2.2.2.2.2.2.1 (pg_one (hat H hW)) 0 t0 rfl ht hin hdg (kk H locs ls hS hW hl)
theorem j_aald (B : pgB p m c s args meth own cc nL D tys A) {a n : Nat} {cA : ClassId} {C : String} {f : Nat → Option Nat} (hat : ∀ H, Wd H → va_at D vwCl (a, .inl (cA, n, .inr (.inr (.inr (.inr f))))) H) (t0 : Nat) (ht : tys[t0]? = some (cA, .object C)) {i : Int32} (hin : vp_in i n) (hdg : decode cc pc = .ok (.aaload, 1)) (kn : f i.toNatClampNeg = none → pgJ p l e R s m args below meth c nL A (Wd) (cells) (slots) (Q) (pc + 1) (L) (.null :: st)) (kr : ∀ y : Nat, f i.toNatClampNeg = some y → pgJ p l e R s m args below meth c nL A (Wd) (cells) (slots) (Q) (pc + 1) (L) (.ref y :: st)) : pgJ p l e R s m args below meth c nL A (Wd) (cells) (slots) (Q) (pc) (L) (.int i :: .ref a :: st) := by
  intro H locs ls hS hW hl
  refine va_aldq B.1 B.2.1 B.2.2.2.2.2.2.1 (pg_one (hat H hW)) 0 t0 rfl ht hin hdg ?_
  cases hf : f i.toNatClampNeg with
  | none => exact kn hf H locs ls hS hW hl
  | some y => exact kr y hf H locs ls hS hW hl
theorem j_alen (B : pgB p m c s args meth own cc nL D tys A) {a : Nat} {cA : ClassId} {x : vp_A} (hat : ∀ H, Wd H → va_at D vwCl (a, .inl (cA, x)) H) (t0 : Nat) {ty : FieldType} (ht : tys[t0]? = some (cA, ty)) {v : Int32} (hv : Int32.ofNat x.1 = v) (hdg : decode cc pc = .ok (.arraylength, 1)) (kk : pgJ p l e R s m args below meth c nL A (Wd) (cells) (slots) (Q) (pc + 1) (L) (.int v :: st)) : pgJ p l e R s m args below meth c nL A (Wd) (cells) (slots) (Q) (pc) (L) (.ref a :: st) := fun H locs ls hS hW hl => va_alen B.1 B.2.1 B.2.2.2.2.2.2.1 (pg_one (hat H hW)) 0 t0 rfl ht hv hdg (kk H locs ls hS hW hl)
theorem j_iast (B : pgB p m c s args meth own cc nL D tys A) {a n : Nat} {cA : ClassId} {f : Nat → Int32} (hat : ∀ H, Wd H → va_at D vwCl (a, .inl (cA, n, .inl f)) H) (t0 : Nat) (ht : tys[t0]? = some (cA, .int)) {i : Int32} {x : Int32} (hin : vp_in i n) (hdg : decode cc pc = .ok (.iastore, 1)) (hA : A a) (step : ∀ (H H1 : Heap), Wd H → va_at D vwCl (a, .inl (cA, n, .inl (upd f i.toNatClampNeg x))) H1 → H1.size = H.size → (∀ q : Nat, q ≠ a → H1[q]? = H[q]?) → Wd' H1) (kk : pgJ p l e R s m args below meth c nL A (Wd') (cells) (slots) (Q) (pc + 1) (L) (st)) : pgJ p l e R s m args below meth c nL A (Wd) (cells) (slots) (Q) (pc) (L) (.int x :: .int i :: .ref a :: st) := by
  intro H locs ls hS hW hll
  obtain ⟨hx, hb, -, hown, hts, -, hE⟩ := B
  have hK := hE.1
  have h0 := hat H hW
  refine W.iast hx hb h0 ((hK.2 t0 _ ht).1 n (fun j => .int (f j))) (fun q => by cases q) (by show ¬ (i < 0 ∨ (arrV _ _ _).slots.size ≤ _); rw [arrV_size]; exact hin) rfl rfl hdg fun H1 e z oq => ?_
  refine kk H1 _ ls (hS.put z oq hA) (step H H1 hW ?_ z oq) hll
  show H1[a]? = some (vp_cell _ _)
  rw [e]
  rw [vp_cell_i, vp_cell_i, arrV_store]
  congr 2
  funext q
  by_cases hq : q = i.toNatClampNeg
  · subst hq
    simp [updV, upd]
    try rfl
  · simp [updV, upd, hq]
theorem j_zast (B : pgB p m c s args meth own cc nL D tys A) {a n : Nat} {cA : ClassId} {f : Nat → Int32} (hat : ∀ H, Wd H → va_at D vwCl (a, .inl (cA, n, .inl f)) H) (t0 : Nat) (ht : tys[t0]? = some (cA, .boolean)) {i : Int32} {x : Int32} (hin : vp_in i n) (hdg : decode cc pc = .ok (.bastore, 1)) (hA : A a) (step : ∀ (H H1 : Heap), Wd H → va_at D vwCl (a, .inl (cA, n, .inl (upd f i.toNatClampNeg (vp_nar .boolean x)))) H1 → H1.size = H.size → (∀ q : Nat, q ≠ a → H1[q]? = H[q]?) → Wd' H1) (kk : pgJ p l e R s m args below meth c nL A (Wd') (cells) (slots) (Q) (pc + 1) (L) (st)) : pgJ p l e R s m args below meth c nL A (Wd) (cells) (slots) (Q) (pc) (L) (.int x :: .int i :: .ref a :: st) := by
  intro H locs ls hS hW hll
  obtain ⟨hx, hb, -, hown, hts, -, hE⟩ := B
  have hK := hE.1
  have h0 := hat H hW
  refine W.zast hx hb h0 ((hK.2 t0 _ ht).1 n (fun j => .int (f j))) (fun q => by cases q) (by show ¬ (i < 0 ∨ (arrV _ _ _).slots.size ≤ _); rw [arrV_size]; exact hin) rfl rfl hdg fun H1 e z oq => ?_
  refine kk H1 _ ls (hS.put z oq hA) (step H H1 hW ?_ z oq) hll
  show H1[a]? = some (vp_cell _ _)
  rw [e]
  rw [vp_cell_i, vp_cell_i, arrV_store]
  congr 2
  funext q
  by_cases hq : q = i.toNatClampNeg
  · subst hq
    simp [updV, upd, vp_nar]
    try rfl
  · simp [updV, upd, vp_nar, hq]
theorem j_last (B : pgB p m c s args meth own cc nL D tys A) {a n : Nat} {cA : ClassId} {f : Nat → Int64} (hat : ∀ H, Wd H → va_at D vwCl (a, .inl (cA, n, .inr (.inl f))) H) (t0 : Nat) (ht : tys[t0]? = some (cA, .long)) {i : Int32} {x : Int64} (hin : vp_in i n) (hdg : decode cc pc = .ok (.lastore, 1)) (hA : A a) (step : ∀ (H H1 : Heap), Wd H → va_at D vwCl (a, .inl (cA, n, .inr (.inl (vp_updL f i.toNatClampNeg x)))) H1 → H1.size = H.size → (∀ q : Nat, q ≠ a → H1[q]? = H[q]?) → Wd' H1) (kk : pgJ p l e R s m args below meth c nL A (Wd') (cells) (slots) (Q) (pc + 1) (L) (st)) : pgJ p l e R s m args below meth c nL A (Wd) (cells) (slots) (Q) (pc) (L) (.long x :: .int i :: .ref a :: st) := by
  intro H locs ls hS hW hll
  obtain ⟨hx, hb, -, hown, hts, -, hE⟩ := B
  have hK := hE.1
  have h0 := hat H hW
  refine W.last hx hb h0 ((hK.2 t0 _ ht).1 n (fun j => .long (f j))) (fun q => by cases q) (by show ¬ (i < 0 ∨ (arrV _ _ _).slots.size ≤ _); rw [arrV_size]; exact hin) rfl rfl hdg fun H1 e z oq => ?_
  refine kk H1 _ ls (hS.put z oq hA) (step H H1 hW ?_ z oq) hll
  show H1[a]? = some (vp_cell _ _)
  rw [e]
  rw [vp_cell_l, vp_cell_l, arrV_store]
  congr 2
  funext q
  by_cases hq : q = i.toNatClampNeg
  · subst hq
    simp [updV, vp_updL]
    try rfl
  · simp [updV, vp_updL, hq]
theorem j_aast (B : pgB p m c s args meth own cc nL D tys A) {a n v : Nat} {cA : ClassId} {ci : Nat} {r : vw_C} {vs : List Value} {f : Nat → Option Nat} (hat : ∀ H, Wd H → va_at D vwCl (a, .inl (cA, n, .inr (.inr (.inr (.inr f))))) H) (t0 : Nat) (ht : tys[t0]? = some (cA, .object r.1)) (hv : ∀ H, Wd H → va_at D vwCl (v, .inr (ci, vs)) H) (hc : vwCl[ci]? = some r) {i : Int32} (hin : vp_in i n) (hdg : decode cc pc = .ok (.aastore, 1)) (hA : A a) (step : ∀ (H H1 : Heap), Wd H → va_at D vwCl (a, .inl (cA, n, .inr (.inr (.inr (.inr (va_up f i.toNatClampNeg (some v))))))) H1 → H1.size = H.size → (∀ q : Nat, q ≠ a → H1[q]? = H[q]?) → Wd' H1) (kk : pgJ p l e R s m args below meth c nL A (Wd') (cells) (slots) (Q) (pc + 1) (L) (st)) : pgJ p l e R s m args below meth c nL A (Wd) (cells) (slots) (Q) (pc) (L) (.ref v :: .int i :: .ref a :: st) := by
  intro H locs ls hS hW hll
  obtain ⟨hx, hb, -, hown, hts, -, hE⟩ := B
  have hK := hE.1
  have hlt : i.toNatClampNeg < n := Nat.not_le.mp fun q => hin (Or.inr q)
  have h0 : ¬ i < 0 := fun q => hin (Or.inl q)
  obtain ⟨r', hr', cellV, g1, g2, g3, -⟩ := hv H hW
  have hcls := (hK.1 ci r hc).2
  obtain ⟨kA, comp, k1, k2, k3, -⟩ := (hK.2 t0 _ ht).2
  have hcomp : comp = D.1 ci := Option.some.inj (k3.symm.trans hcls.1)
  subst hcomp
  obtain ⟨kC, hkC, -⟩ := hcls.2
  refine W.aast hx hb (hat H hW) (fun q h => by cases h) (fun h => by cases h) k1 k2 rfl hkC ⟨h0, by show _ < (arrV _ _ _).slots.size; rw [arrV_size]; exact hlt⟩ g1 (fun q h => by rw [g3] at h; cases h) (by rw [g2]; exact hkC) (by rw [g2]; exact va_assign hcls) rfl rfl hdg fun H1 e z oq => ?_
  refine kk H1 _ ls (hS.put z oq hA) (step H H1 hW ?_ z oq) hll
  show H1[a]? = some (vp_cell _ _)
  rw [e]
  rw [vp_cell_q, vp_cell_q, arrV_store]
  congr 2
  funext q
  by_cases hq : q = i.toNatClampNeg
  · subst hq
    simp [updV, va_up, va_rf]
  · simp [updV, va_up, hq]
theorem j_world (h : ∀ H, Wd H → Wd' H) (kk : pgJ p l e R s m args below meth c nL A (Wd') (cells) (slots) (Q) (pc) (L) (st)) : pgJ p l e R s m args below meth c nL A (Wd) (cells) (slots) (Q) (pc) (L) (st) := fun H locs ls hS hW hl => kk H locs ls hS (h H hW) hl
theorem j_stack {st2 : List Value} (h : stk = st2) (kk : pgJ p l e R s m args below meth c nL A (Wd) (cells) (slots) (Q) (pc) (L) (st2)) : pgJ p l e R s m args below meth c nL A (Wd) (cells) (slots) (Q) (pc) (L) (stk) := h ▸ kk
theorem j_widen {k n : Nat} (h1 : cells ≤ k) (h2 : slots ≤ n) (kk : pgJ p l e R s m args below meth c nL A (Wd) (k) (n) (Q) (pc) (L) (st)) : pgJ p l e R s m args below meth c nL A (Wd) (cells) (slots) (Q) (pc) (L) (st) := fun H locs ls hS hW hl => W.widen h1 h2 (kk H locs ls hS hW hl)
theorem j_locals (ks : List Nat) (h : lv_pick L ks = L') (kk : pgJ p l e R s m args below meth c nL A (Wd) (cells) (slots) (Q) (pc) (L') (st)) : pgJ p l e R s m args below meth c nL A (Wd) (cells) (slots) (Q) (pc) (L) (st) := fun H locs ls hS hW hl => kk H locs ls hS hW (lv_sub hl ks h)
theorem j_fact {P : Prop} (h : ∀ H, Wd H → P) (kk : P → pgJ p l e R s m args below meth c nL A (Wd) (cells) (slots) (Q) (pc) (L) (st)) : pgJ p l e R s m args below meth c nL A (Wd) (cells) (slots) (Q) (pc) (L) (st) := fun H locs ls hS hW hl => kk (h H hW) H locs ls hS hW hl
end PGJ
end
section
theorem pgGV {y : MethodName} {idx : Nat} {own C : String} {bytes : ByteArray} {maxL : Nat} {ret : Option FieldType} (q1 : Cond.methodLink own idx y ∈ pgWd) (q2 : Cond.instanceMethod y ∈ pgWd) (q3 : Cond.selects C y y ∈ pgWd) (q4 : Cond.initialized C ∈ pgWd) (q5 : Cond.code y bytes maxL ret ∈ pgWd) : GoodIn pgWd (wsV own idx C y (.code y bytes maxL ret :: pgWd)) := by
  intro w hw
  have hm : w ∈ pgWd := by
    simp only [wsV, List.cons_append, List.nil_append, List.mem_cons] at hw
    rcases hw with rfl | rfl | rfl | rfl | rfl | h
    · exact q1
    · exact q2
    · exact q3
    · exact q4
    · exact q5
    · exact h
  exact ⟨hm, good_of_word (List.mem_filter.mp hm).2⟩
theorem pgGS {y : MethodName} {idx : Nat} {own : String} {w0 : Cond} (q1 : Cond.methodLink own idx y ∈ pgWd) (q2 : Cond.static y ∈ pgWd) (q3 : Cond.initialized y.cls ∈ pgWd) (q5 : w0 ∈ pgWd) : GoodIn pgWd (va_wsS own idx y (w0 :: pgWd)) := by
  intro w hw
  have hm : w ∈ pgWd := by
    simp only [va_wsS, List.cons_append, List.nil_append, List.mem_cons] at hw
    rcases hw with rfl | rfl | rfl | rfl | h
    · exact q1
    · exact q2
    · exact q3
    · exact q5
    · exact h
  exact ⟨hm, good_of_word (List.mem_filter.mp hm).2⟩
theorem pgGI {w0 : Cond} (q5 : w0 ∈ pgWd) : GoodIn pgWd (w0 :: pgWd) := by
  intro w hw
  have hm : w ∈ pgWd := by
    rcases List.mem_cons.mp hw with rfl | h
    · exact q5
    · exact h
  exact ⟨hm, good_of_word (List.mem_filter.mp hm).2⟩
theorem pg_narrowAt {D : va_G} {tys : List (ClassId × FieldType)} {A A1 : Nat → Prop} {s U : State} {H : Heap} {locs : List Loc} (h : pgE D tys A s) (hS : va_S A s.heap H locs) (hU : U.heap = H) (hW : s.WarmedH U.vm) (hA : ∀ q, A1 q → A q) (hN : ∀ q : Nat, H.size ≤ q → A q → A1 q) : pgE D tys A1 U :=
  (h.at hS hU hW).narrow hA (fun q hq => hN q (by rw [← hU]; exact hq) ((h.at hS hU hW).2.2.2.2.2 q hq))
section PGC
variable {p : Program} {l : Launch} {e : Env} {R : Room} {s : State} {m : MethodId} {args : Array Value} {below : List Frame} {meth : Method} {c : Code} {own : String} {cc : ByteArray} {nL : Nat} {D : va_G} {tys : List (ClassId × FieldType)} {A : Nat → Prop} {Wd : Heap → Prop} {cells slots : Nat} {Q : State → Prop} {pc : Nat} {L : List (Nat × Value)} {st stk : List Value}
theorem pg_enter {l : Launch} {y : MethodName} {bytes : ByteArray} {maxL : Nat} {ret : Option FieldType} {rm : Room} {D : va_G} {tys : List (ClassId × FieldType)} {A : Nat → Prop} {Wd : Heap → Prop} {av : List Value} {Qc : Array Value → State → Outcome → State → Prop}  {mc ms : Nat} {own : String} (hy : plainName y.cls = true) (hown : y.cls = own) (hsl : (lg_sl av).length ≤ maxL)
    (body : ∀ (p : Program) (e : Env) (s : State) (m : MethodId) (below : List Frame) (meth : Method) (c : Code), pgB p m c s av.toArray meth own bytes maxL D tys A → meth.sig.returnType = ret → meth.name = y.name →  pgJ p l e rm s m av.toArray below meth c maxL A Wd 0 0 (MQ below Qc av.toArray s mc ms A) 0 (lv_args 0 av) []) : Met l y (.code y bytes maxL ret :: pgWd) rm (pgPc D tys A Wd av) Qc mc ms A := by
  refine Met.ofW (cc := bytes) (maxL := maxL) (ret := ret) hy rfl ?_
  intro p e s m args below meth c s₁ B hml hv
  obtain ⟨rfl, hE, hW⟩ := hv
  have hts := atoms_spec (ws := .code y bytes maxL ret :: pgWd) B.pre
  have hown2 : s.vm.findClass own = some m.cls := by rw [← hown]; exact findClass_of_methodNamed B.named
  rw [lg_entry_eq]
  exact body p e s m below meth c ⟨B.exec, B.bytes, hml, hown2, fun w h => hts w (List.mem_cons_of_mem _ h), B.notSynchronized, hE⟩ B.returns (name_of_methodNamed B.named B.method).1  s.heap [] _ va_S.rf hW (lv_entry av hsl)
theorem pg_enterX {l : Launch} {y : MethodName} {bytes : ByteArray} {maxL : Nat} {ret : Option FieldType} {rm : Room} {D : va_G} {tys : List (ClassId × FieldType)} {A : Nat → Prop} {Wd : Heap → Prop} {av : List Value} {Qc : Array Value → State → Outcome → State → Prop} {XC : String → State → State → Prop} {mc ms : Nat} {own : String} (hy : plainName y.cls = true) (hown : y.cls = own) (hsl : (lg_sl av).length ≤ maxL)
    (body : ∀ (p : Program) (e : Env) (s : State) (m : MethodId) (below : List Frame) (meth : Method) (c : Code), pgB p m c s av.toArray meth own bytes maxL D tys A → meth.sig.returnType = ret → meth.name = y.name → (∀ x ∈ c.exceptionTable.toList, False) → pgJ p l e rm s m av.toArray below meth c maxL A Wd 0 0 (vx_MQ below Qc XC av.toArray s mc ms A) 0 (lv_args 0 av) []) : vx_Met l y (.code y bytes maxL ret :: pgWd) rm (pgPc D tys A Wd av) Qc XC mc ms A := by
  refine vx_ofW (cc := bytes) (maxL := maxL) (ret := ret) hy rfl ?_
  intro p e s m args below meth c s₁ B hml ht hv
  obtain ⟨rfl, hE, hW⟩ := hv
  have hts := atoms_spec (ws := .code y bytes maxL ret :: pgWd) B.pre
  have hown2 : s.vm.findClass own = some m.cls := by rw [← hown]; exact findClass_of_methodNamed B.named
  rw [lg_entry_eq]
  exact body p e s m below meth c ⟨B.exec, B.bytes, hml, hown2, fun w h => hts w (List.mem_cons_of_mem _ h), B.notSynchronized, hE⟩ B.returns (name_of_methodNamed B.named B.method).1 ht s.heap [] _ va_S.rf hW (lv_entry av hsl)
theorem pg_enterW {l : Launch} {y : MethodName} {bytes : ByteArray} {maxL : Nat} {ret : Option FieldType} {hh : List (Nat × Nat × Nat × Nat)} {rm : Room} {D : va_G} {tys : List (ClassId × FieldType)} {A : Nat → Prop} {Wd : Heap → Prop} {av : List Value} {Qc : Array Value → State → Outcome → State → Prop} {mc ms : Nat} {own : String} (hy : plainName y.cls = true) (hown : y.cls = own) (hsl : (lg_sl av).length ≤ maxL)
    (body : ∀ (p : Program) (e : Env) (s : State) (m : MethodId) (below : List Frame) (meth : Method) (c : Code), pgB p m c s av.toArray meth own bytes maxL D tys A → meth.sig.returnType = ret → c.exceptionTable.toList = tableOf hh → pgJ p l e rm s m av.toArray below meth c maxL A Wd 0 0 (MQ below Qc av.toArray s mc ms A) 0 (lv_args 0 av) []) : Met l y (.codeWith y bytes maxL ret hh :: pgWd) rm (pgPc D tys A Wd av) Qc mc ms A := by
  refine va_MetW (cc := bytes) (maxL := maxL) (ret := ret) (hh := hh) hy rfl ?_
  intro p e s m args below meth c s₁ B hml hv
  obtain ⟨rfl, hE, hW⟩ := hv
  have hts := atoms_spec (ws := .codeWith y bytes maxL ret hh :: pgWd) B.pre
  have hown2 : s.vm.findClass own = some m.cls := by rw [← hown]; exact findClass_of_methodNamed B.named
  rw [lg_entry_eq]
  exact body p e s m below meth c ⟨B.exec, B.bytes, hml, hown2, fun w h => hts w (List.mem_cons_of_mem _ h), B.notSynchronized, hE⟩ B.returns (vx_table (x := y) B (hts _ List.mem_cons_self)) s.heap [] _ va_S.rf hW (lv_entry av hsl)
theorem j_iret {S : Type} {v : Int32} {ty : FieldType} {post : Int32 → S → Prop} {Wd9 : S → Heap → Prop} {mc ms : Nat} (B : pgB p m c s args meth own cc nL D tys A) (hr : meth.sig.returnType = some ty) (hn : narrow ty (.int v) = .int v) (hdg : decode cc pc = .ok (.ireturn, 1)) (hc : cells ≤ mc) (hs : slots ≤ ms) (u : S) (hpost : post v u) (hwd : ∀ H, Wd H → Wd9 u H) : pgJ p l e R s m args below meth c nL A (Wd) (cells) (slots) (MQ below (va_Qi post (fun u t => Wd9 u t.heap) A) args s mc ms A) (pc) (L) ([.int v]) := by
  intro H locs ls hS hW hl
  refine W.widen hc hs ?_
  exact W.zret B.1 B.2.1 hr hn (fun t ht hWt => ⟨⟨v, u, rfl, hpost, by show Wd9 u t.heap; rw [ht]; exact hwd H hW⟩, hS.F ht⟩) hS.2.2 hdg B.2.2.2.2.2.1
theorem j_vret {S : Type}  {post : S → Prop} {Wd9 : S → Heap → Prop} {mc ms : Nat} (B : pgB p m c s args meth own cc nL D tys A) (hr : meth.sig.returnType = none) (hdg : decode cc pc = .ok (.return_, 1)) (hc : cells ≤ mc) (hs : slots ≤ ms) (u : S) (hpost : post u) (hwd : ∀ H, Wd H → Wd9 u H) : pgJ p l e R s m args below meth c nL A (Wd) (cells) (slots) (MQ below (va_Qv post (fun u t => Wd9 u t.heap) A) args s mc ms A) (pc) (L) ([]) := by
  intro H locs ls hS hW hl
  refine W.widen hc hs ?_
  exact W.vret B.1 B.2.1 hr (fun t ht hWt => ⟨⟨u, rfl, hpost, by show Wd9 u t.heap; rw [ht]; exact hwd H hW⟩, hS.F ht⟩) hS.2.2 hdg B.2.2.2.2.2.1
theorem j_aret (B : pgB p m c s args meth own cc nL D tys A) {v : Nat} {C : String} {post : Nat → Prop} {Wd9 : Heap → Prop} {mc ms : Nat} (hr : meth.sig.returnType = some (.object C)) (hdg : decode cc pc = .ok (.areturn, 1)) (hc : cells ≤ mc) (hs : slots ≤ ms) (hpost : post v) (hwd : ∀ H, Wd H → Wd9 H) : pgJ p l e R s m args below meth c nL A (Wd) (cells) (slots) (MQ below (va_Qr (fun _ : Unit => True) (fun _ a t => post a ∧ Wd9 t.heap) A) args s mc ms A) (pc) (L) ([.ref v]) := by
  intro H locs ls hS hW hl
  refine W.widen hc hs ?_
  exact W.aret B.1 B.2.1 hr (Or.inl ⟨_, rfl⟩) (Or.inr ⟨_, rfl⟩) (fun t ht hWt => ⟨⟨(), v, rfl, trivial, hpost, by rw [ht]; exact hwd H hW⟩, hS.F ht⟩) hS.2.2 hdg B.2.2.2.2.2.1
theorem j_x {Qc : Array Value → State → Outcome → State → Prop} {XC : String → State → State → Prop} {mc ms : Nat} (kk : pgJ p l e R s m args below meth c nL A (Wd) (cells) (slots) (MQ below Qc args s mc ms A) (pc) (L) (st)) : pgJ p l e R s m args below meth c nL A (Wd) (cells) (slots) (vx_MQ below Qc XC args s mc ms A) (pc) (L) (st) := fun H locs ls hS hW hl => vx_ret (kk H locs ls hS hW hl)
theorem pg_str {D : va_G} {tys : List (ClassId × FieldType)} {A : Nat → Prop} {U : State} (h : pgE D tys A U) {is : Nat} {text : String} (hm : (is, text) ∈ pgStr) : ∃ sa : Nat, vk_R RX2 is text sa U := h.2.2.1 (is, text) hm
theorem pg_nw {D : va_G} {tys : List (ClassId × FieldType)} {A : Nat → Prop} {U : State} (h : pgE D tys A U) (a : Array Value) : ∀ w ∈ pgNw, w.before a U = true := by
  intro w hw
  have hon : w.onTables = true := by
    simp only [pgNw, List.mem_cons, List.not_mem_nil, or_false] at hw
    rcases hw with rfl | rfl | rfl | rfl | rfl | rfl | rfl <;> rfl
  exact va_Nw.use hon (h.2.2.2.1 w hw)
theorem j_throw {p : Program} {l : Launch} {e : Env} {R : Room} {s : State} {m : MethodId} {args : Array Value} {below : List Frame} {meth : Method} {c : Code} {cc : ByteArray} {nL : Nat} {D : va_G} {tys : List (ClassId × FieldType)} {A : Nat → Prop} {Wd Wd0 : Heap → Prop} {cells slots : Nat} {pc : Nat} {L : List (Nat × Value)} {st : List Value} {Qc : Array Value → State → Outcome → State → Prop} {px : Nat → Prop} {mc ms ik ic : Nat} {cls : String} (hg1 : ∀ w ∈ (vx_atS RX2 ic cls pgNm).filter goodWord, w ∈ pgWd) (hg2 : ∀ w ∈ (vx_atS RX2 ic cls pgNm).filter (fun w => !goodWord w), w ∈ pgNw) (hg3 : ∀ w ∈ Cond.classLink RX2 ik cls :: Cond.initialized cls :: vx_atS RX2 ic cls pgNm, vx_ot w = true) (hfit : Bundle.fit cls = true) (q1 : Cond.classLink RX2 ik cls ∈ pgWd) (q2 : Cond.initialized cls ∈ pgWd) (k : Nat) (hk : cls = pgExn k)
    (B : pgB p m c s args meth RX2 cc nL D tys A) (hl : l.stackTraces = false) (ht : ∀ x ∈ c.exceptionTable.toList, False) {is : Nat} {text : String} (hm : (is, text) ∈ pgStr) (d0 : decode cc pc = .ok (.new ik, 3)) (d3 : decode cc (pc + 3) = .ok (.dup, 1)) (d4 : decode cc (pc + 4) = .ok (.ldc is, 2)) (d6 : decode cc (pc + 6) = .ok (.invokespecial ic, 3)) (d9 : decode cc (pc + 9) = .ok (.athrow, 1)) (hRf : 5 < R.frames) (hRl : (st.map fun v => v.category).sum + 82 ≤ R.locals) (hRc : cells + 1 ≤ R.cells) (hRs : slots + 6 ≤ R.slots) (hc : cells + 1 ≤ mc) (hs : slots + 6 ≤ ms) (hpx : px k) (kept : ∀ (H H1 : Heap), Wd H → (∀ q : Nat, q < H.size → H1[q]? = H[q]?) → Wd0 H1) :
    pgJ p l e R s m args below meth c nL A Wd cells slots (vx_MQ below Qc (pgX A px Wd0) args s mc ms A) pc L st := by
  intro H locs ls hS hW hll
  obtain ⟨sa, hstr⟩ := pg_str B.2.2.2.2.2.2 hm
  refine vx_throwS B.1 B.2.1 hl B.2.2.2.1 hfit (by decide) (B.2.2.2.2.1 _ q1) (B.2.2.2.2.1 _ q2) hstr (vx_hat (fun w h => B.2.2.2.2.1 w (hg1 w h)) hg2 (pg_nw B.2.2.2.2.2.2 args)) hg3 B.2.2.2.2.2.2.2.1.1 B.2.2.2.2.2.2.2.1.2 hS (by rw [hll.1]; exact B.2.2.1.symm) d0 d3 d4 d6 d9 (fun x hx => (ht x hx).elim) hRf hRl hRc hRs B.2.2.2.2.2.1 (fun t hvm hz hq => ⟨k, hpx, ⟨hk, kept H t.heap hW hq⟩, Nat.le_trans hS.1 hz, fun q h1 h2 => (hq q (Nat.lt_of_lt_of_le h1 hS.1)).trans (hS.2.1 q h1 h2)⟩) hS.2.2 hc hs
theorem pgTI2 : ∀ w ∈ (vx_atS RX2 188 pgEI pgNm).filter (fun w => !goodWord w), w ∈ pgNw := by decide +kernel
theorem pgTI3 : ∀ w ∈ Cond.classLink RX2 184 pgEI :: Cond.initialized pgEI :: vx_atS RX2 188 pgEI pgNm, vx_ot w = true := by decide +kernel
theorem pgTA2 : ∀ w ∈ (vx_atS RX2 31 pgEA pgNm).filter (fun w => !goodWord w), w ∈ pgNw := by decide +kernel
theorem pgTA3 : ∀ w ∈ Cond.classLink RX2 27 pgEA :: Cond.initialized pgEA :: vx_atS RX2 31 pgEA pgNm, vx_ot w = true := by decide +kernel
theorem pgTS2 : ∀ w ∈ (vx_atS RX2 42 pgES pgNm).filter (fun w => !goodWord w), w ∈ pgNw := by decide +kernel
theorem pgTS3 : ∀ w ∈ Cond.classLink RX2 38 pgES :: Cond.initialized pgES :: vx_atS RX2 42 pgES pgNm, vx_ot w = true := by decide +kernel
theorem j_cVi (B : pgB p m c s args meth own cc nL D tys A) {S : Type} {y : MethodName} {bytes : ByteArray} {maxL : Nat} {ret : Option FieldType} {rm : Room} {idx : Nat} (n : Nat) {b : Nat} (As : List Value) {WdC : Heap → Prop} {A1 : Nat → Prop} {post : Int32 → S → Prop} {WdC' : S → Heap → Prop} (Wd' : S → Heap → Prop) (hM : Met l y (.code y bytes maxL ret :: pgWd) rm (pgPc D tys A1 WdC (.ref b :: As)) (va_Qi post (fun u t => WdC' u t.heap) A1) rm.cells rm.slots A1) {C : String} {T : u_T} {N ci : Nat} {fs : List Value} (hc : vwCl[ci]? = some (C, T, N)) (hat : ∀ H, Wd H → va_at D vwCl (b, .inr (ci, fs)) H) (q1 : Cond.methodLink own idx y ∈ pgWd) (q2 : Cond.instanceMethod y ∈ pgWd) (q3 : Cond.selects C y y ∈ pgWd) (q4 : Cond.initialized C ∈ pgWd) (q5 : Cond.code y bytes maxL ret ∈ pgWd) (hd : y.cls = C ∧ y.cls ≠ "java/lang/invoke/MethodHandle" ∧ y.cls ≠ "java/lang/invoke/VarHandle" ∧ (parseMethodDescriptor y.desc).map (fun d => d.parameters.length) = some n) (hn : As.length = n) (hR : rm.frames + 1 ≤ R.frames ∧ 8 + (maxL + 11) + rm.locals ≤ R.locals) (hcat : (st.map fun v => v.category).sum ≤ 8) (hdg : decode cc pc = .ok (.invokevirtual idx, 3)) (hstk : stk = As.reverse ++ .ref b :: st) (hcl : cells + rm.cells ≤ R.cells ∧ slots + rm.slots ≤ R.slots) (hA : ∀ q, A1 q → A q) (hN : ∀ (H : Heap), Wd H → ∀ q : Nat, H.size ≤ q → A q → A1 q) (cut : ∀ H, Wd H → WdC H) (back : ∀ (H H1 : Heap) (u : S), Wd H → WdC' u H1 → H.size ≤ H1.size → (∀ q : Nat, q < H.size → ¬ A1 q → H1[q]? = H[q]?) → Wd' u H1) (kk : ∀ (r : Int32) (u : S), post r u → pgJ p l e R s m args below meth c nL A (Wd' u) (cells + rm.cells) (slots + rm.slots) (Q) (pc + 3) (L) (.int r :: st)) : pgJ p l e R s m args below meth c nL A (Wd) (cells) (slots) (Q) (pc) (L) (stk) := by
  subst hstk
  intro H locs ls hS hW hl
  exact va_calli (va_runV (As := As) (rest := st) ⟨B.1, B.2.1, B.2.2.1, B.2.2.2.1, B.2.2.2.2.1⟩ hM (cwV n B.2.2.2.2.1 (pgGV q1 q2 q3 q4 q5) rfl rfl rfl hd hR) ⟨pgBlind, va_recv B.2.2.2.2.2.2.1 (pg_one (hat H hW)) hc (q0 := 0) rfl, (fun U hU hWm => ⟨rfl, pg_narrowAt B.2.2.2.2.2.2 hS hU hWm hA (hN H hW), by rw [hU]; exact cut H hW⟩)⟩ rfl hn hl.1 rfl (lv_room hcat) hdg hcl) hS (fun q _ h => hA q h) hA (fun r u t H1 locs1 ht hvm hp hB hz hk hS1 => kk r u hp H1 locs1 ls hS1 (back H H1 u hW (by rw [← ht]; exact hB) hz hk) hl)
theorem j_cVv (B : pgB p m c s args meth own cc nL D tys A) {S : Type} {y : MethodName} {bytes : ByteArray} {maxL : Nat} {ret : Option FieldType} {rm : Room} {idx : Nat} (n : Nat) {b : Nat} (As : List Value) {WdC : Heap → Prop} {A1 : Nat → Prop} {post : S → Prop} {WdC' : S → Heap → Prop} (Wd' : S → Heap → Prop) (hM : Met l y (.code y bytes maxL ret :: pgWd) rm (pgPc D tys A1 WdC (.ref b :: As)) (va_Qv post (fun u t => WdC' u t.heap) A1) rm.cells rm.slots A1) {C : String} {T : u_T} {N ci : Nat} {fs : List Value} (hc : vwCl[ci]? = some (C, T, N)) (hat : ∀ H, Wd H → va_at D vwCl (b, .inr (ci, fs)) H) (q1 : Cond.methodLink own idx y ∈ pgWd) (q2 : Cond.instanceMethod y ∈ pgWd) (q3 : Cond.selects C y y ∈ pgWd) (q4 : Cond.initialized C ∈ pgWd) (q5 : Cond.code y bytes maxL ret ∈ pgWd) (hd : y.cls = C ∧ y.cls ≠ "java/lang/invoke/MethodHandle" ∧ y.cls ≠ "java/lang/invoke/VarHandle" ∧ (parseMethodDescriptor y.desc).map (fun d => d.parameters.length) = some n) (hn : As.length = n) (hR : rm.frames + 1 ≤ R.frames ∧ 8 + (maxL + 11) + rm.locals ≤ R.locals) (hcat : (st.map fun v => v.category).sum ≤ 8) (hdg : decode cc pc = .ok (.invokevirtual idx, 3)) (hstk : stk = As.reverse ++ .ref b :: st) (hcl : cells + rm.cells ≤ R.cells ∧ slots + rm.slots ≤ R.slots) (hA : ∀ q, A1 q → A q) (hN : ∀ (H : Heap), Wd H → ∀ q : Nat, H.size ≤ q → A q → A1 q) (cut : ∀ H, Wd H → WdC H) (back : ∀ (H H1 : Heap) (u : S), Wd H → WdC' u H1 → H.size ≤ H1.size → (∀ q : Nat, q < H.size → ¬ A1 q → H1[q]? = H[q]?) → Wd' u H1) (kk : ∀ (u : S), post u → pgJ p l e R s m args below meth c nL A (Wd' u) (cells + rm.cells) (slots + rm.slots) (Q) (pc + 3) (L) (st)) : pgJ p l e R s m args below meth c nL A (Wd) (cells) (slots) (Q) (pc) (L) (stk) := by
  subst hstk
  intro H locs ls hS hW hl
  exact va_callv (va_runV (As := As) (rest := st) ⟨B.1, B.2.1, B.2.2.1, B.2.2.2.1, B.2.2.2.2.1⟩ hM (cwV n B.2.2.2.2.1 (pgGV q1 q2 q3 q4 q5) rfl rfl rfl hd hR) ⟨pgBlind, va_recv B.2.2.2.2.2.2.1 (pg_one (hat H hW)) hc (q0 := 0) rfl, (fun U hU hWm => ⟨rfl, pg_narrowAt B.2.2.2.2.2.2 hS hU hWm hA (hN H hW), by rw [hU]; exact cut H hW⟩)⟩ rfl hn hl.1 rfl (lv_room hcat) hdg hcl) hS (fun q _ h => hA q h) hA (fun u t H1 locs1 ht hvm hp hB hz hk hS1 => kk u hp H1 locs1 ls hS1 (back H H1 u hW (by rw [← ht]; exact hB) hz hk) hl)
theorem j_cSi (B : pgB p m c s args meth own cc nL D tys A) {S : Type} {y : MethodName} {bytes : ByteArray} {maxL : Nat} {ret : Option FieldType} {rm : Room} {idx : Nat} (n : Nat) (As : List Value) {WdC : Heap → Prop} {A1 : Nat → Prop} {post : Int32 → S → Prop} {WdC' : S → Heap → Prop} (Wd' : S → Heap → Prop) (hM : Met l y (.code y bytes maxL ret :: pgWd) rm (pgPc D tys A1 WdC (As)) (va_Qi post (fun u t => WdC' u t.heap) A1) rm.cells rm.slots A1) (q1 : Cond.methodLink own idx y ∈ pgWd) (q2 : Cond.static y ∈ pgWd) (q4 : Cond.initialized y.cls ∈ pgWd) (q5 : Cond.code y bytes maxL ret ∈ pgWd) (hd : y.cls ≠ "java/lang/invoke/MethodHandle" ∧ y.cls ≠ "java/lang/invoke/VarHandle" ∧ (parseMethodDescriptor y.desc).map (fun d => d.parameters.length) = some n) (hn : As.length = n) (hR : rm.frames + 1 ≤ R.frames ∧ 8 + (maxL + 11) + rm.locals ≤ R.locals) (hcat : (st.map fun v => v.category).sum ≤ 8) (hdg : decode cc pc = .ok (.invokestatic idx, 3)) (hstk : stk = As.reverse ++ st) (hcl : cells + rm.cells ≤ R.cells ∧ slots + rm.slots ≤ R.slots) (hA : ∀ q, A1 q → A q) (hN : ∀ (H : Heap), Wd H → ∀ q : Nat, H.size ≤ q → A q → A1 q) (cut : ∀ H, Wd H → WdC H) (back : ∀ (H H1 : Heap) (u : S), Wd H → WdC' u H1 → H.size ≤ H1.size → (∀ q : Nat, q < H.size → ¬ A1 q → H1[q]? = H[q]?) → Wd' u H1) (kk : ∀ (r : Int32) (u : S), post r u → pgJ p l e R s m args below meth c nL A (Wd' u) (cells + rm.cells) (slots + rm.slots) (Q) (pc + 3) (L) (.int r :: st)) : pgJ p l e R s m args below meth c nL A (Wd) (cells) (slots) (Q) (pc) (L) (stk) := by
  subst hstk
  intro H locs ls hS hW hl
  exact va_calli (va_runS (As := As) (rest := st) ⟨B.1, B.2.1, B.2.2.1, B.2.2.2.1, B.2.2.2.2.1⟩ hM (va_cwS n B.2.2.2.2.1 (pgGS q1 q2 q4 q5) rfl rfl rfl hd hR) ⟨pgBlind, (fun U hU hWm => ⟨rfl, pg_narrowAt B.2.2.2.2.2.2 hS hU hWm hA (hN H hW), by rw [hU]; exact cut H hW⟩)⟩ rfl hn hl.1 rfl (lv_room hcat) hdg hcl) hS (fun q _ h => hA q h) hA (fun r u t H1 locs1 ht hvm hp hB hz hk hS1 => kk r u hp H1 locs1 ls hS1 (back H H1 u hW (by rw [← ht]; exact hB) hz hk) hl)
theorem j_cWi (B : pgB p m c s args meth own cc nL D tys A) {S : Type} {y : MethodName} {bytes : ByteArray} {maxL : Nat} {ret : Option FieldType} {rm : Room} {idx : Nat} (n : Nat) (As : List Value) {WdC : Heap → Prop} {A1 : Nat → Prop} {hh : List (Nat × Nat × Nat × Nat)} {post : Int32 → S → Prop} {WdC' : S → Heap → Prop} (Wd' : S → Heap → Prop) (hM : Met l y (.codeWith y bytes maxL ret hh :: pgWd) rm (pgPc D tys A1 WdC (As)) (va_Qi post (fun u t => WdC' u t.heap) A1) rm.cells rm.slots A1) (q1 : Cond.methodLink own idx y ∈ pgWd) (q2 : Cond.static y ∈ pgWd) (q4 : Cond.initialized y.cls ∈ pgWd) (q5 : Cond.codeWith y bytes maxL ret hh ∈ pgWd) (hd : y.cls ≠ "java/lang/invoke/MethodHandle" ∧ y.cls ≠ "java/lang/invoke/VarHandle" ∧ (parseMethodDescriptor y.desc).map (fun d => d.parameters.length) = some n) (hn : As.length = n) (hR : rm.frames + 1 ≤ R.frames ∧ 8 + (maxL + 11) + rm.locals ≤ R.locals) (hcat : (st.map fun v => v.category).sum ≤ 8) (hdg : decode cc pc = .ok (.invokestatic idx, 3)) (hstk : stk = As.reverse ++ st) (hcl : cells + rm.cells ≤ R.cells ∧ slots + rm.slots ≤ R.slots) (hA : ∀ q, A1 q → A q) (hN : ∀ (H : Heap), Wd H → ∀ q : Nat, H.size ≤ q → A q → A1 q) (cut : ∀ H, Wd H → WdC H) (back : ∀ (H H1 : Heap) (u : S), Wd H → WdC' u H1 → H.size ≤ H1.size → (∀ q : Nat, q < H.size → ¬ A1 q → H1[q]? = H[q]?) → Wd' u H1) (kk : ∀ (r : Int32) (u : S), post r u → pgJ p l e R s m args below meth c nL A (Wd' u) (cells + rm.cells) (slots + rm.slots) (Q) (pc + 3) (L) (.int r :: st)) : pgJ p l e R s m args below meth c nL A (Wd) (cells) (slots) (Q) (pc) (L) (stk) := by
  subst hstk
  intro H locs ls hS hW hl
  exact va_calli (vx_runSW (hh := hh) (As := As) (rest := st) ⟨B.1, B.2.1, B.2.2.1, B.2.2.2.1, B.2.2.2.2.1⟩ hM (vx_cwSW n B.2.2.2.2.1 (pgGS q1 q2 q4 q5) rfl rfl rfl hd hR) ⟨pgBlind, (fun U hU hWm => ⟨rfl, pg_narrowAt B.2.2.2.2.2.2 hS hU hWm hA (hN H hW), by rw [hU]; exact cut H hW⟩)⟩ rfl hn hl.1 rfl (lv_room hcat) hdg hcl) hS (fun q _ h => hA q h) hA (fun r u t H1 locs1 ht hvm hp hB hz hk hS1 => kk r u hp H1 locs1 ls hS1 (back H H1 u hW (by rw [← ht]; exact hB) hz hk) hl)
theorem j_cIv (B : pgB p m c s args meth own cc nL D tys A) {S : Type} {y : MethodName} {bytes : ByteArray} {maxL : Nat} {rm : Room} {idx : Nat} (n : Nat) {b : Nat} (As : List Value) {WdC : Heap → Prop} {A1 : Nat → Prop} {post : S → Prop} {WdC' : S → Heap → Prop} (Wd' : S → Heap → Prop) (hM : Met l y (.code y bytes maxL none :: pgWd) rm (pgPc D tys A1 WdC (.ref b :: As)) (va_Qv post (fun u t => WdC' u t.heap) A1) rm.cells rm.slots A1) (q1 : Cond.methodLink own idx y ∈ pgWd) (q2 : Cond.instanceMethod y ∈ pgWd) (q4 : Cond.initialized y.cls ∈ pgWd) (q5 : Cond.code y bytes maxL none ∈ pgWd) (hy1 : y.name = "<init>") (hd : y.cls ≠ "java/lang/invoke/MethodHandle" ∧ y.cls ≠ "java/lang/invoke/VarHandle" ∧ (parseMethodDescriptor y.desc).map (fun d => d.parameters.length) = some n) (hn : As.length = n) (hR : rm.frames + 1 ≤ R.frames ∧ 8 + (maxL + 11) + rm.locals ≤ R.locals) (hcat : (st.map fun v => v.category).sum ≤ 8) (hdg : decode cc pc = .ok (.invokespecial idx, 3)) (hstk : stk = As.reverse ++ .ref b :: st) (hcl : cells + rm.cells ≤ R.cells ∧ slots + rm.slots ≤ R.slots) (hA : ∀ q, A1 q → A q) (hN : ∀ (H : Heap), Wd H → ∀ q : Nat, H.size ≤ q → A q → A1 q) (cut : ∀ H, Wd H → WdC H) (back : ∀ (H H1 : Heap) (u : S), Wd H → WdC' u H1 → H.size ≤ H1.size → (∀ q : Nat, q < H.size → ¬ A1 q → H1[q]? = H[q]?) → Wd' u H1) (kk : ∀ (u : S), post u → pgJ p l e R s m args below meth c nL A (Wd' u) (cells + rm.cells) (slots + rm.slots) (Q) (pc + 3) (L) (st)) : pgJ p l e R s m args below meth c nL A (Wd) (cells) (slots) (Q) (pc) (L) (stk) := by
  subst hstk
  intro H locs ls hS hW hl
  exact va_callv (va_runI (As := As) (rest := st) ⟨B.1, B.2.1, B.2.2.1, B.2.2.2.1, B.2.2.2.2.1⟩ hM (cwI n B.2.2.2.2.1 (pgGI q5) rfl rfl rfl (B.2.2.2.2.1 _ q4) (B.2.2.2.2.1 _ q1) (B.2.2.2.2.1 _ q2) hy1 hd hR) ⟨pgBlind, (fun U hU hWm => ⟨rfl, pg_narrowAt B.2.2.2.2.2.2 hS hU hWm hA (hN H hW), by rw [hU]; exact cut H hW⟩)⟩ rfl hn hl.1 rfl (lv_room hcat) hdg hcl) hS (fun q _ h => hA q h) hA (fun u t H1 locs1 ht hvm hp hB hz hk hS1 => kk u hp H1 locs1 ls hS1 (back H H1 u hW (by rw [← ht]; exact hB) hz hk) hl)
theorem pgx_callr {H : Heap} {locs : List Loc} {mc ms : Nat} {free : Addr → Prop} {A0 A1 : Nat → Prop} {H0 : Heap} {a : Array Value} {ls : Array Slot} {st0 rest : List Value} {S SX : Type} {post : S → Prop} {px : SX → Prop} {B : S → Nat → State → Prop} {BX : String → SX → State → Prop} {AX : Nat → Prop} (hr : vx_Run p l e R s m args below meth c H locs cells slots mc ms (F0 m pc ls st0) rest (va_Qr post B A1 a) (vx_X px BX AX) free) (hS : va_S A0 H0 H locs) (hA : ∀ q, q < H.size → A1 q → A0 q) (hf : ∀ q, free q → A0 q) (hAX : ∀ q, q < H.size → AX q → A0 q)
    (kx : ∀ (E : String) (ce : Cell) (q9 : Addr) (u : SX) (t : State) (H1 : Heap) (locs1 : List Loc), t.heap = H1 → s.vm.Alike t.vm → px u → BX E u t → H.size ≤ H1.size → (∀ q : Nat, q < H.size → ¬ AX q → H1[q]? = H[q]?) → va_S A0 H0 H1 locs1 → H1[q9]? = some ce → ce.vm = .none → s.vm.findClass E = some ce.cls → vx_W p l e R s m args below meth c H1 locs1 (cells + mc) (slots + ms) Q (F0 m pc ls rest) q9)
    (kk : ∀ (u : S) (ra : Nat) (t : State) (H1 : Heap) (locs1 : List Loc), t.heap = H1 → s.vm.Alike t.vm → post u → B u ra t → H.size ≤ H1.size → (∀ q : Nat, q < H.size → ¬ A1 q → H1[q]? = H[q]?) → va_S A0 H0 H1 locs1 → W p l e R s m args below meth c H1 locs1 (cells + mc) (slots + ms) Q (F0 m (pc + 3) ls (.ref ra :: rest))) : W p l e R s m args below meth c H locs cells slots Q (F0 m pc ls st0) := by
  intro T hT X
  rcases hr T hT X with ⟨v, st₀, t, T', L, h0, X', hL, e1, e2, ⟨⟨u, ra, hv, hp, hb⟩, hF⟩, st⟩ | ⟨q, st₀, t, T', L, E, ce, h0, X', hL, e1, e2, ⟨u, hp, hb, hF⟩, hce, hcv, hcl, st⟩
  · cases hv
    obtain ⟨k1, k2, k3⟩ := vx_keep h0 e1 hS hA hf hL hF
    obtain ⟨t2, a1, b1⟩ := kk u ra t T'.heap (locs ++ L) e1.symm (by rw [← e2]; exact X'.warmed.alike) hp hb k1 k2 k3 T' rfl X'
    exact ⟨t2, st t2 a1, b1⟩
  · obtain ⟨k1, k2, k3⟩ := vx_keep h0 e1 hS hAX hf hL hF
    obtain ⟨t2, a1, b1⟩ := kx E ce q u t T'.heap (locs ++ L) e1.symm (by rw [← e2]; exact X'.warmed.alike) hp hb k1 k2 k3 (by rw [e1]; exact hce) hcv hcl T' rfl X'
    exact ⟨t2, st.trans a1, b1⟩
theorem j_xVr (B : pgB p m c s args meth own cc nL D tys A) {y : MethodName} {bytes : ByteArray} {maxL : Nat} {ret : Option FieldType} {rm : Room} {idx : Nat} (n : Nat) {b : Nat} (As : List Value) {WdX Wd0 : Heap → Prop} {pxC px : Nat → Prop} {Qc : Array Value → State → Outcome → State → Prop} {mc ms : Nat} {post : Nat → Prop} {WdC' : Heap → Prop} (ht : ∀ x ∈ c.exceptionTable.toList, False) (hM : vx_Met l y (.code y bytes maxL ret :: pgWd) rm (pgPc D tys A Wd (.ref b :: As)) (va_Qr (fun _ : Unit => True) (fun _ a t => post a ∧ WdC' t.heap) A) (pgX A pxC WdX) rm.cells rm.slots A) {C : String} {T : u_T} {N ci : Nat} {fs : List Value} (hc : vwCl[ci]? = some (C, T, N)) (hat : ∀ H, Wd H → va_at D vwCl (b, .inr (ci, fs)) H) (q1 : Cond.methodLink own idx y ∈ pgWd) (q2 : Cond.instanceMethod y ∈ pgWd) (q3 : Cond.selects C y y ∈ pgWd) (q4 : Cond.initialized C ∈ pgWd) (q5 : Cond.code y bytes maxL ret ∈ pgWd) (hd : y.cls = C ∧ y.cls ≠ "java/lang/invoke/MethodHandle" ∧ y.cls ≠ "java/lang/invoke/VarHandle" ∧ (parseMethodDescriptor y.desc).map (fun d => d.parameters.length) = some n) (hn : As.length = n) (hR : rm.frames + 1 ≤ R.frames ∧ 8 + (maxL + 11) + rm.locals ≤ R.locals) (hcat : (st.map fun v => v.category).sum ≤ 8) (hdg : decode cc pc = .ok (.invokevirtual idx, 3)) (hstk : stk = As.reverse ++ .ref b :: st) (hcl : cells + rm.cells ≤ R.cells ∧ slots + rm.slots ≤ R.slots) (hc9 : cells + rm.cells ≤ mc) (hs9 : slots + rm.slots ≤ ms) (hpx : ∀ k, pxC k → px k) (hw0 : ∀ H, WdX H → Wd0 H) (kk : ∀ (r : Nat), post r → pgJ p l e R s m args below meth c nL A (WdC') (cells + rm.cells) (slots + rm.slots) (vx_MQ below Qc (pgX A px Wd0) args s mc ms A) (pc + 3) (L) (.ref r :: st)) : pgJ p l e R s m args below meth c nL A (Wd) (cells) (slots) (vx_MQ below Qc (pgX A px Wd0) args s mc ms A) (pc) (L) (stk) := by
  subst hstk
  intro H locs ls hS hW hl
  exact pgx_callr (vx_runV (As := As) (rest := st) ⟨B.1, B.2.1, B.2.2.1, B.2.2.2.1, B.2.2.2.2.1⟩ hM (cwV n B.2.2.2.2.1 (pgGV q1 q2 q3 q4 q5) rfl rfl rfl hd hR) ⟨pgBlind, va_recv B.2.2.2.2.2.2.1 (pg_one (hat H hW)) hc (q0 := 0) rfl, (fun U hU hWm => ⟨rfl, B.2.2.2.2.2.2.at hS hU hWm, by rw [hU]; exact hW⟩)⟩ rfl hn hl.1 rfl (lv_room hcat) hdg hcl) hS (fun q _ h => h) (fun q h => h) (fun q _ h => h) (fun E ce q9 k t H1 locs1 ht1 hvm hp hB hz hk hS1 hce hcv hcl9 => vx_out (fun x hx => (ht x hx).elim) B.2.2.2.2.2.1 hce hcv hcl9 (fun t9 ht9 hvm9 => ⟨k, hpx k hp, ⟨hB.1, by rw [ht9, ← ht1]; exact hw0 _ hB.2⟩, hS1.F ht9⟩) hS1.2.2 hc9 hs9) (fun _ r t H1 locs1 ht hvm _ hB hz hk hS1 => kk r hB.1 H1 locs1 ls hS1 (by rw [← ht]; exact hB.2) hl)
theorem j_xSv (B : pgB p m c s args meth own cc nL D tys A) {S : Type} {y : MethodName} {bytes : ByteArray} {maxL : Nat} {ret : Option FieldType} {rm : Room} {idx : Nat} (n : Nat) (As : List Value) {WdX Wd0 : Heap → Prop} {pxC px : Nat → Prop} {Qc : Array Value → State → Outcome → State → Prop} {mc ms : Nat} {post : S → Prop} {WdC' : S → Heap → Prop} (ht : ∀ x ∈ c.exceptionTable.toList, False) (hM : vx_Met l y (.code y bytes maxL ret :: pgWd) rm (pgPc D tys A Wd (As)) (va_Qv post (fun u t => WdC' u t.heap) A) (pgX A pxC WdX) rm.cells rm.slots A) (q1 : Cond.methodLink own idx y ∈ pgWd) (q2 : Cond.static y ∈ pgWd) (q4 : Cond.initialized y.cls ∈ pgWd) (q5 : Cond.code y bytes maxL ret ∈ pgWd) (hd : y.cls ≠ "java/lang/invoke/MethodHandle" ∧ y.cls ≠ "java/lang/invoke/VarHandle" ∧ (parseMethodDescriptor y.desc).map (fun d => d.parameters.length) = some n) (hn : As.length = n) (hR : rm.frames + 1 ≤ R.frames ∧ 8 + (maxL + 11) + rm.locals ≤ R.locals) (hcat : (st.map fun v => v.category).sum ≤ 8) (hdg : decode cc pc = .ok (.invokestatic idx, 3)) (hstk : stk = As.reverse ++ st) (hcl : cells + rm.cells ≤ R.cells ∧ slots + rm.slots ≤ R.slots) (hc9 : cells + rm.cells ≤ mc) (hs9 : slots + rm.slots ≤ ms) (hpx : ∀ k, pxC k → px k) (hw0 : ∀ H, WdX H → Wd0 H) (kk : ∀ (u : S), post u → pgJ p l e R s m args below meth c nL A (WdC' u) (cells + rm.cells) (slots + rm.slots) (vx_MQ below Qc (pgX A px Wd0) args s mc ms A) (pc + 3) (L) (st)) : pgJ p l e R s m args below meth c nL A (Wd) (cells) (slots) (vx_MQ below Qc (pgX A px Wd0) args s mc ms A) (pc) (L) (stk) := by
  subst hstk
  intro H locs ls hS hW hl
  exact vx_callv (vx_runS (As := As) (rest := st) ⟨B.1, B.2.1, B.2.2.1, B.2.2.2.1, B.2.2.2.2.1⟩ hM (va_cwS n B.2.2.2.2.1 (pgGS q1 q2 q4 q5) rfl rfl rfl hd hR) ⟨pgBlind, (fun U hU hWm => ⟨rfl, B.2.2.2.2.2.2.at hS hU hWm, by rw [hU]; exact hW⟩)⟩ rfl hn hl.1 rfl (lv_room hcat) hdg hcl) hS (fun q _ h => h) (fun q h => h) (fun q _ h => h) (fun E ce q9 k t H1 locs1 ht1 hvm hp hB hz hk hS1 hce hcv hcl9 => vx_out (fun x hx => (ht x hx).elim) B.2.2.2.2.2.1 hce hcv hcl9 (fun t9 ht9 hvm9 => ⟨k, hpx k hp, ⟨hB.1, by rw [ht9, ← ht1]; exact hw0 _ hB.2⟩, hS1.F ht9⟩) hS1.2.2 hc9 hs9) (fun u t H1 locs1 ht hvm hp hB hz hk hS1 => kk u hp H1 locs1 ls hS1 (by rw [← ht]; exact hB) hl)
end PGC
end
section
/-- one new cell q, with e in it, behind a heap of that world -/
def pgFresh (D : va_G) (Wd : Heap → Prop) (q : Nat) (x : va_E) : Heap → Prop := fun H1 => ∃ H : Heap, Wd H ∧ H.size = q ∧ H1.size = q + 1 ∧ (∀ z : Nat, z < q → H1[z]? = H[z]?) ∧ va_at D vwCl (q, x) H1
section PGN
variable {p : Program} {l : Launch} {e : Env} {R : Room} {s : State} {m : MethodId} {args : Array Value} {below : List Frame} {meth : Method} {c : Code} {own : String} {cc : ByteArray} {nL : Nat} {D : va_G} {tys : List (ClassId × FieldType)} {A : Nat → Prop} {Wd : Heap → Prop} {cells slots : Nat} {Q : State → Prop} {pc : Nat} {L : List (Nat × Value)} {st stk : List Value}
theorem j_objInit (B : pgB p m c s args meth own cc nL D tys A) {idx : Nat} {a : Nat} (q1 : Cond.methodLink own idx objectInit ∈ pgWd) (q2 : Cond.instanceMethod objectInit ∈ pgWd) (q3 : Cond.code objectInit ⟨#[0xb1]⟩ 1 none ∈ pgWd) (hdg : decode cc pc = .ok (.invokespecial idx, 3)) (hf : 1 ≤ R.frames) (hlo : (st.map fun v => v.category).sum + 12 ≤ R.locals) (kk : pgJ p l e R s m args below meth c nL A (Wd) (cells) (slots) (Q) (pc + 3) (L) (st)) : pgJ p l e R s m args below meth c nL A (Wd) (cells) (slots) (Q) (pc) (L) (.ref a :: st) := by
  intro H locs ls hS hW hl
  refine W.objInit B.1 B.2.1 B.2.2.2.1 (B.2.2.2.2.1 _ q1) (B.2.2.2.2.1 _ q2) (B.2.2.2.2.1 _ q3) rfl (by rw [B.2.2.1]; exact hl.1) rfl hdg hf (by show 2 * 0 + _ + 12 ≤ _; omega) ?_
  exact kk H locs ls hS hW hl
theorem j_new (B : pgB p m c s args meth own cc nL D tys A) {C : String} {T : u_T} {N ci index : Nat} {fs : List Value} (hin : ∀ w ∈ u_ws C T N, w ∈ pgWd) (ty : Nat → FieldType) (hty : ∀ k, k < N → parseFieldDescriptor (T k).2.2.1 = some (ty k)) (q1 : Cond.classLink own index C ∈ pgWd) (q2 : Cond.instantiable C N ∈ pgWd) (q3 : Cond.initialized C ∈ pgWd) (hc : vwCl[ci]? = some (C, T, N)) (hfs : ∀ j, j < N → defaultValue (ty j) = vp_V fs j) (hcells : cells + 1 ≤ R.cells) (hslots : slots + N ≤ R.slots) (hdg : decode cc pc = .ok (.new index, 3)) (kk : ∀ q : Nat, A q → pgJ p l e R s m args below meth c nL A (pgFresh D Wd q (.inr (ci, fs))) (cells + 1) (slots + N) (Q) (pc + 3) (L) (.ref q :: st)) : pgJ p l e R s m args below meth c nL A (Wd) (cells) (slots) (Q) (pc) (L) (st) := by
  intro H locs ls hS hW hl
  have hK := B.2.2.2.2.2.2.1
  have hKn := hK.1 ci _ hc
  refine W.newcK B.1 B.2.1 B.2.2.2.1 (B.2.2.2.2.1 _ q1) (B.2.2.2.2.1 _ q2) (B.2.2.2.2.1 _ q3) rfl hdg hcells hslots hKn.2.1 rfl fun H1 kC hkC e1 z1 o1 => ?_
  refine kk H.size (B.2.2.2.2.2.2.2.2.2.2.2 _ hS.1) H1 locs ls ⟨Nat.le_trans hS.1 (by omega), fun x h1 h2 => (o1 x (Nat.lt_of_lt_of_le h1 hS.1)).trans (hS.2.1 x h1 h2), hS.2.2⟩ ⟨H, hW, rfl, z1, o1, ⟨_, hc, ?_⟩⟩ hl
  exact (u_born ty B.2.2.2.2.1 hin hKn hkC e1 hty).to hfs
theorem j_anew (B : pgB p m c s args meth own cc nL D tys A) {C : String} {index N : Nat} {n : Int32} {cA : ClassId} (q1 : Cond.classLink own index C ∈ pgWd) (hAO : va_AO C s) (t0 : Nat) (ht : tys[t0]? = some (cA, .object C)) (hn : ¬ n < 0) (hN : n.toNatClampNeg = N) (hb4 : N * 4 ≤ 536870912) (hcells : cells + 1 ≤ R.cells) (hslots : slots + N ≤ R.slots) (hdg : decode cc pc = .ok (.anewarray index, 3)) (kk : ∀ q : Nat, A q → pgJ p l e R s m args below meth c nL A (pgFresh D Wd q (.inl (cA, N, .inr (.inr (.inr (.inr (fun _ => none))))))) (cells + 1) (slots + N) (Q) (pc + 3) (L) (.ref q :: st)) : pgJ p l e R s m args below meth c nL A (Wd) (cells) (slots) (Q) (pc) (L) (.int n :: st) := by
  intro H locs ls hS hW hl
  subst hN
  refine W.anew B.1 B.2.1 B.2.2.2.1 (B.2.2.2.2.1 _ q1) (va_AO.use hAO) rfl hdg rfl hn hb4 hcells hslots fun cA2 kA comp f1 f2 f3 f4 => ?_
  obtain ⟨kA3, comp3, g1, g2, g3, g4⟩ := (B.2.2.2.2.2.2.1.2 t0 _ ht).2
  have hcA : cA2 = cA := Option.some.inj (f1.symm.trans g4)
  subst hcA
  generalize hH1 : H.push ({ cls := cA2, slots := Array.replicate n.toNatClampNeg .null, vm := .none } : Cell) = H1
  have z1 : H1.size = H.size + 1 := by rw [← hH1, Array.size_push]
  have e1 : H1[H.size]? = some (arrV cA2 n.toNatClampNeg (fun _ => .null)) := by rw [← hH1, Array.getElem?_push_size, ← arrV_new]
  have o1 : ∀ q : Nat, q < H.size → H1[q]? = H[q]? := fun q hq => by rw [← hH1, Array.getElem?_push, if_neg (Nat.ne_of_lt hq)]
  refine kk H.size (B.2.2.2.2.2.2.2.2.2.2.2 _ hS.1) H1 locs ls ⟨Nat.le_trans hS.1 (by omega), fun x h1 h2 => (o1 x (Nat.lt_of_lt_of_le h1 hS.1)).trans (hS.2.1 x h1 h2), hS.2.2⟩ ⟨H, hW, rfl, z1, o1, ?_⟩ hl
  show H1[H.size]? = some (vp_cell _ _)
  rw [vp_cell_q]
  exact e1
theorem j_newa (B : pgB p m c s args meth own cc nL D tys A) {atype : ArrayType} {N : Nat} {n : Int32} {cA : ClassId} {ty : FieldType} {a0 : vp_A} (hty : newarray.typeOf atype = ty) (q1 : Cond.arrayClass ty ∈ pgWd) (t0 : Nat) (ht : tys[t0]? = some (cA, ty)) (hra : va_RA s cA ty → s.vm.findClass ("[" ++ ty.toString) = some cA) (ha : ∀ cA : ClassId, vp_cell cA a0 = arrV cA N (fun _ => defaultValue ty)) (hn : ¬ n < 0) (hN : n.toNatClampNeg = N) (hb4 : N * componentBytes ty ≤ 536870912) (hcells : cells + 1 ≤ R.cells) (hslots : slots + N ≤ R.slots) (hdg : decode cc pc = .ok (.newarray atype, 2)) (kk : ∀ q : Nat, A q → pgJ p l e R s m args below meth c nL A (pgFresh D Wd q (.inl (cA, a0))) (cells + 1) (slots + N) (Q) (pc + 2) (L) (.ref q :: st)) : pgJ p l e R s m args below meth c nL A (Wd) (cells) (slots) (Q) (pc) (L) (.int n :: st) := by
  intro H locs ls hS hW hl
  subst hN
  subst hty
  refine W.newa B.1 B.2.1 (B.2.2.2.2.1 _ q1) rfl hdg rfl hn hb4 hcells hslots fun cA2 kA comp f1 f2 f3 => ?_
  have hcA : cA2 = cA := Option.some.inj (f1.symm.trans (hra (B.2.2.2.2.2.2.1.2 t0 _ ht).2))
  subst hcA
  generalize hH1 : H.push ({ cls := cA2, slots := Array.replicate n.toNatClampNeg (defaultValue (newarray.typeOf atype)), vm := .none } : Cell) = H1
  have z1 : H1.size = H.size + 1 := by rw [← hH1, Array.size_push]
  have e1 : H1[H.size]? = some (arrV cA2 n.toNatClampNeg (fun _ => defaultValue (newarray.typeOf atype))) := by rw [← hH1, Array.getElem?_push_size, ← arrV_new]
  have o1 : ∀ q : Nat, q < H.size → H1[q]? = H[q]? := fun q hq => by rw [← hH1, Array.getElem?_push, if_neg (Nat.ne_of_lt hq)]
  refine kk H.size (B.2.2.2.2.2.2.2.2.2.2.2 _ hS.1) H1 locs ls ⟨Nat.le_trans hS.1 (by omega), fun x h1 h2 => (o1 x (Nat.lt_of_lt_of_le h1 hS.1)).trans (hS.2.1 x h1 h2), hS.2.2⟩ ⟨H, hW, rfl, z1, o1, ?_⟩ hl
  show H1[H.size]? = some (vp_cell _ _)
  rw [ha]
  exact e1
end PGN
/-- an array's picture matters at its places alone -/
theorem pg_refs {D : va_G} {q n : Nat} {cA : ClassId} {f g : Nat → Option Nat} {H : Heap} (h : va_at D vwCl (q, .inl (cA, n, .inr (.inr (.inr (.inr f))))) H) (e : ∀ j, j < n → f j = g j) : va_at D vwCl (q, .inl (cA, n, .inr (.inr (.inr (.inr g))))) H := by
  have h2 : H[q]? = some (vp_cell cA (n, .inr (.inr (.inr (.inr f))))) := h
  show H[q]? = some (vp_cell cA (n, .inr (.inr (.inr (.inr g)))))
  rw [h2, vp_cell_q, vp_cell_q]
  unfold arrV
  congr 3
  funext j
  show va_rf (f j.val) = va_rf (g j.val)
  rw [e j.val j.isLt]
theorem pg_ints {D : va_G} {q n : Nat} {cA : ClassId} {f g : Nat → Int32} {H : Heap} (h : va_at D vwCl (q, .inl (cA, n, .inl f)) H) (e : ∀ j, j < n → f j = g j) : va_at D vwCl (q, .inl (cA, n, .inl g)) H := by
  have h2 : H[q]? = some (vp_cell cA (n, .inl f)) := h
  show H[q]? = some (vp_cell cA (n, .inl g))
  rw [h2, vp_cell_i, vp_cell_i]
  unfold arrV
  congr 3
  funext j
  show Value.int (f j.val) = Value.int (g j.val)
  rw [e j.val j.isLt]
end
section
/-- a state: table by table, place by place. 0 kind, 1 secrecy, 2 keeper, 3 crate, 4 state, 5 missing, 6 offered, 7 doer, 8 found good, 9 certificate, 10 crate's keeper, 11 seal, 12 remembered, 13 numbers (0 disks, 1 seals, 2 odd, 3 entries, 4 certificates), 14 keeper by the log -/
abbrev pgSt : Type := Nat → Nat → Int32
def pgU (σ : pgSt) (t i : Nat) (v : Int32) : pgSt := fun a j => if a = t ∧ j = i then v else σ a j
abbrev ix (d : Int32) : Nat := d.toNatClampNeg
def pgCv (ad : Nat → Nat) (v : Int32) : Value := if v = -1 then .null else .ref (ad (3 + ix v))
abbrev pgDv (ad : Nat → Nat) (σ : pgSt) (j : Nat) : List Value := [.int (σ 0 j), .int (σ 1 j), .int (σ 2 j), .int (σ 14 j), pgCv ad (σ 3 j), .int (σ 6 j), .int (σ 4 j), .int (σ 7 j), .int (σ 8 j), .int (σ 5 j), .int (σ 9 j)]
abbrev pgKv (σ : pgSt) (c : Nat) : List Value := [.int (nI c), .int (σ 10 c), .int (σ 11 c), .int (σ 12 c)]
abbrev pgXv (ad : Nat → Nat) (σ : pgSt) : List Value := [.ref (ad 1), .ref (ad 2), .int (σ 13 0), .int (σ 13 1), .int (σ 13 2), .int (σ 13 3), .int (σ 13 4)]
abbrev pgBd (n : Nat) (ad : Nat → Nat) : Nat → Option Nat := fun i => if i < n then some (ad (13 + i)) else none
/-- what the class's k-th cell holds: the object, its two arrays, ten crates, the disks -/
def pgO (cD cC : ClassId) (σ : pgSt) (n : Nat) (ad : Nat → Nat) (k : Nat) : va_E :=
  if k = 0 then .inr (2, pgXv ad σ) else if k = 1 then .inl (cD, 60, .inr (.inr (.inr (.inr (pgBd n ad))))) else if k = 2 then .inl (cC, 10, .inr (.inr (.inr (.inr (fun i => some (ad (3 + i))))))) else if k < 13 then .inr (0, pgKv σ (k - 3)) else .inr (1, pgDv ad σ (k - 13))
/-- the class's world -/
def pgR (D : va_G) (cD cC : ClassId) (A : Nat → Prop) (σ : pgSt) (n : Nat) (ad : Nat → Nat) (H : Heap) : Prop :=
  (∀ k, k < 13 + n → va_at D vwCl (ad k, pgO cD cC σ n ad k) H) ∧ (∀ a b, a < 13 + n → b < 13 + n → ad a = ad b → a = b) ∧ (∀ k, k < 13 + n → A (ad k))
section PGR
variable {D : va_G} {cD cC : ClassId} {A : Nat → Prop} {σ σ2 : pgSt} {n : Nat} {ad : Nat → Nat} {H H1 : Heap}
theorem pgR.x (h : pgR D cD cC A σ n ad H) : va_at D vwCl (ad 0, .inr (2, pgXv ad σ)) H := h.1 0 (by omega)
theorem pgR.bd (h : pgR D cD cC A σ n ad H) : va_at D vwCl (ad 1, .inl (cD, 60, .inr (.inr (.inr (.inr (pgBd n ad)))))) H := h.1 1 (by omega)
theorem pgR.ac (h : pgR D cD cC A σ n ad H) : va_at D vwCl (ad 2, .inl (cC, 10, .inr (.inr (.inr (.inr (fun i => some (ad (3 + i)))))))) H := h.1 2 (by omega)
theorem pgO_cr {c : Nat} (hc : c < 10) : pgO cD cC σ n ad (3 + c) = .inr (0, pgKv σ c) := by
  unfold pgO
  rw [if_neg (by omega), if_neg (by omega), if_neg (by omega), if_pos (by omega), show 3 + c - 3 = c by omega]
theorem pgO_dk (j : Nat) : pgO cD cC σ n ad (13 + j) = .inr (1, pgDv ad σ j) := by
  unfold pgO
  rw [if_neg (by omega), if_neg (by omega), if_neg (by omega), if_neg (by omega), show 13 + j - 13 = j by omega]
theorem pgR.cr (h : pgR D cD cC A σ n ad H) {c : Nat} (hc : c < 10) : va_at D vwCl (ad (3 + c), .inr (0, pgKv σ c)) H := by
  rw [← pgO_cr (cD := cD) (cC := cC) (n := n) (ad := ad) hc]
  exact h.1 (3 + c) (by omega)
theorem pgR.dk (h : pgR D cD cC A σ n ad H) {j : Nat} (hj : j < n) : va_at D vwCl (ad (13 + j), .inr (1, pgDv ad σ j)) H := by
  rw [← pgO_dk (cD := cD) (cC := cC) (n := n) (ad := ad) j]
  exact h.1 (13 + j) (by omega)
theorem pgR.inA (h : pgR D cD cC A σ n ad H) : ∀ k, k < 13 + n → A (ad k) := h.2.2
theorem pgR.lt (h : pgR D cD cC A σ n ad H) {k : Nat} (hk : k < 13 + n) : ad k < H.size := (h.1 k hk).lt
theorem pgR.kept (h : pgR D cD cC A σ n ad H) (hq : ∀ k, k < 13 + n → H1[ad k]? = H[ad k]?) : pgR D cD cC A σ n ad H1 := ⟨fun k hk => (h.1 k hk).kept (hq k hk), h.2⟩
theorem pgR.more (h : pgR D cD cC A σ n ad H) (hq : ∀ q : Nat, q < H.size → H1[q]? = H[q]?) : pgR D cD cC A σ n ad H1 := h.kept fun k hk => hq _ (h.lt hk)
theorem pgR.eq (h : pgR D cD cC A σ n ad H) (e : σ = σ2) : pgR D cD cC A σ2 n ad H := e ▸ h
/-- one cell changes -/
theorem pgR.up (h : pgR D cD cC A σ n ad H) {k : Nat} (hk : k < 13 + n) (hc : va_at D vwCl (ad k, pgO cD cC σ2 n ad k) H1) (ho : ∀ q : Nat, q ≠ ad k → H1[q]? = H[q]?) (hs : ∀ a, a < 13 + n → a ≠ k → pgO cD cC σ2 n ad a = pgO cD cC σ n ad a) : pgR D cD cC A σ2 n ad H1 := by
  refine ⟨fun a ha => ?_, h.2⟩
  by_cases e : a = k
  · rw [e]; exact hc
  · rw [hs a ha e]
    exact (h.1 a ha).kept (ho _ (fun z => e (h.2.1 a k ha hk z)))
theorem pgU_ne {t i a j : Nat} {v : Int32} (h : a ≠ t) : pgU σ t i v a j = σ a j := by simp [pgU, h]
theorem pgU_nj {t i a j : Nat} {v : Int32} (h : j ≠ i) : pgU σ t i v a j = σ a j := by simp [pgU, h]
theorem pgU_self {t i : Nat} {v : Int32} : pgU σ t i v t i = v := by simp [pgU]
theorem pgXv_u {t i : Nat} {v : Int32} (h : (13 : Nat) ≠ t) : pgXv ad (pgU σ t i v) = pgXv ad σ := by simp only [pgXv, pgU_ne h]
theorem pgKv_u {t i a : Nat} {v : Int32} (h1 : (10 : Nat) ≠ t) (h2 : (11 : Nat) ≠ t) (h3 : (12 : Nat) ≠ t) : pgKv (pgU σ t i v) a = pgKv σ a := by simp only [pgKv, pgU_ne h1, pgU_ne h2, pgU_ne h3]
theorem pgKv_j {t i a : Nat} {v : Int32} (h : a ≠ i) : pgKv (pgU σ t i v) a = pgKv σ a := by simp only [pgKv, pgU_nj h]
theorem pgDv_u {t i a : Nat} {v : Int32} (g : ∀ u : Nat, u < 10 ∨ u = 14 → u ≠ t) : pgDv ad (pgU σ t i v) a = pgDv ad σ a := by simp only [pgDv, pgU_ne (g 0 (by omega)), pgU_ne (g 1 (by omega)), pgU_ne (g 2 (by omega)), pgU_ne (g 3 (by omega)), pgU_ne (g 4 (by omega)), pgU_ne (g 5 (by omega)), pgU_ne (g 6 (by omega)), pgU_ne (g 7 (by omega)), pgU_ne (g 8 (by omega)), pgU_ne (g 9 (by omega)), pgU_ne (g 14 (by omega))]
theorem pgDv_j {t i a : Nat} {v : Int32} (h : a ≠ i) : pgDv ad (pgU σ t i v) a = pgDv ad σ a := by simp only [pgDv, pgU_nj h]
theorem pgO_num {t : Nat} {v : Int32} (a : Nat) (ha : a ≠ 0) : pgO cD cC (pgU σ 13 t v) n ad a = pgO cD cC σ n ad a := by
  unfold pgO
  rw [if_neg ha, if_neg ha, pgKv_u (by omega) (by omega) (by omega), pgDv_u (by omega)]
/-- a number of the object's own: field 2 + t -/
theorem pgR.putX (h : pgR D cD cC A σ n ad H) {t : Nat} {v : Int32} {w : List Value} (hw : w = pgXv ad (pgU σ 13 t v)) (hc : va_at D vwCl (ad 0, .inr (2, w)) H1) (ho : ∀ q : Nat, q ≠ ad 0 → H1[q]? = H[q]?) : pgR D cD cC A (pgU σ 13 t v) n ad H1 := by
  subst hw
  exact h.up (k := 0) (by omega) hc ho (fun a _ ha => pgO_num a ha)
/-- a field of crate c -/
theorem pgR.putK (h : pgR D cD cC A σ n ad H) {t c : Nat} {v : Int32} {w : List Value} (hc9 : c < 10) (ht : t = 10 ∨ t = 11 ∨ t = 12) (hw : w = pgKv (pgU σ t c v) c) (hc : va_at D vwCl (ad (3 + c), .inr (0, w)) H1) (ho : ∀ q : Nat, q ≠ ad (3 + c) → H1[q]? = H[q]?) : pgR D cD cC A (pgU σ t c v) n ad H1 := by
  subst hw
  refine h.up (k := 3 + c) (by omega) (by rw [pgO_cr hc9]; exact hc) ho (fun a ha hn => ?_)
  unfold pgO
  have e13 : (13 : Nat) ≠ t := by omega
  by_cases h0 : a = 0
  · simp only [if_pos h0, pgXv_u e13]
  · by_cases h1 : a = 1
    · simp only [if_neg h0, if_pos h1]
    · by_cases h2 : a = 2
      · simp only [if_neg h0, if_neg h1, if_pos h2]
      · by_cases h3 : a < 13
        · have hj : a - 3 ≠ c := by omega
          simp only [if_neg h0, if_neg h1, if_neg h2, if_pos h3, pgKv_j hj]
        · have g : ∀ u : Nat, u < 10 ∨ u = 14 → u ≠ t := by omega
          simp only [if_neg h0, if_neg h1, if_neg h2, if_neg h3, pgDv_u g]
/-- a field of disk j -/
theorem pgR.putD (h : pgR D cD cC A σ n ad H) {t j : Nat} {v : Int32} {w : List Value} (hj : j < n) (ht : t < 10 ∨ t = 14) (hw : w = pgDv ad (pgU σ t j v) j) (hc : va_at D vwCl (ad (13 + j), .inr (1, w)) H1) (ho : ∀ q : Nat, q ≠ ad (13 + j) → H1[q]? = H[q]?) : pgR D cD cC A (pgU σ t j v) n ad H1 := by
  subst hw
  refine h.up (k := 13 + j) (by omega) (by rw [pgO_dk]; exact hc) ho (fun a ha hn => ?_)
  unfold pgO
  have e13 : (13 : Nat) ≠ t := by omega
  have e10 : (10 : Nat) ≠ t := by omega
  have e11 : (11 : Nat) ≠ t := by omega
  have e12 : (12 : Nat) ≠ t := by omega
  by_cases h0 : a = 0
  · simp only [if_pos h0, pgXv_u e13]
  · by_cases h1 : a = 1
    · simp only [if_neg h0, if_pos h1]
    · by_cases h2 : a = 2
      · simp only [if_neg h0, if_neg h1, if_pos h2]
      · by_cases h3 : a < 13
        · simp only [if_neg h0, if_neg h1, if_neg h2, if_pos h3, pgKv_u e10 e11 e12]
        · have hj2 : a - 13 ≠ j := by omega
          simp only [if_neg h0, if_neg h1, if_neg h2, if_neg h3, pgDv_j hj2]
end PGR
theorem pg_nm1 : ∀ c, c < 10 → nI c ≠ -1 := by decide
theorem pgCv_ref {ad : Nat → Nat} {v : Int32} {c : Nat} (hc : c < 10) (h : v = nI c) : pgCv ad v = .ref (ad (3 + c)) := by
  subst h
  unfold pgCv
  rw [if_neg (pg_nm1 c hc), show ix (nI c) = c from nI_clamp (by omega)]
theorem pgCv_null {ad : Nat → Nat} {v : Int32} (h : v = -1) : pgCv ad v = .null := by
  subst h
  rfl
/-- what holds of every state that is reached -/
def pgI (n : Nat) (σ : pgSt) : Prop :=
  n ≤ 60 ∧ σ 13 0 = nI n ∧ (∀ j, j < n → σ 3 j = -1 ∨ ∃ c, c < 10 ∧ σ 3 j = nI c) ∧ (∃ K, K ≤ 100 ∧ σ 13 1 = nI K ∧ ∀ c, c < 10 → σ 11 c = -1 ∨ ∃ k, k < K ∧ σ 11 c = nI k) ∧ (∀ j, n ≤ j → σ 4 j = 0 ∧ σ 5 j = 0 ∧ σ 8 j = 0) ∧ (∀ j, j < n → σ 14 j = σ 2 j)
abbrev pgIsD (σ : pgSt) (d : Int32) : Prop := 0 ≤ d ∧ d < σ 13 0
abbrev pgIsK (k : Int32) : Prop := 0 ≤ k ∧ k < 8
abbrev pgIsC (c : Int32) : Prop := 0 ≤ c ∧ c < 10
abbrev pgShut (σ : pgSt) (j : Nat) : Prop := σ 3 j ≠ -1 ∧ σ 11 (ix (σ 3 j)) ≠ -1
abbrev pgLoose (σ : pgSt) (j : Nat) : Prop := σ 5 j = 0 ∧ σ 6 j = -1 ∧ σ 3 j = -1
abbrev pgReach (σ : pgSt) (j : Nat) : Prop := σ 5 j = 0 ∧ σ 6 j = -1 ∧ ¬ pgShut σ j
abbrev pgFin (σ : pgSt) (j : Nat) : Prop := σ 4 j = 3 ∨ (σ 4 j = 1 ∧ σ 8 j ≠ 0)
abbrev pgAw (σ : pgSt) (j : Nat) : Prop := pgFin σ j ∧ σ 5 j = 0 ∧ σ 9 j = -1
theorem pg_ofN {d : Int32} {N : Nat} (hN : N < 2 ^ 31) (h : 0 ≤ d ∧ d < nI N) : ix d < N ∧ d = nI (ix d) := by
  obtain ⟨j, hj, rfl⟩ := nI_of (x := d) (by
    intro h2
    exact Int32.lt_irrefl (Int32.lt_of_lt_of_le h2 h.1))
  have e : ix (nI j) = j := nI_clamp hj
  rw [e]
  exact ⟨(nI_ltI hj hN).mp h.2, rfl⟩
theorem pgIsD.at {n : Nat} {σ : pgSt} {d : Int32} (hI : pgI n σ) (h : pgIsD σ d) : ix d < n ∧ d = nI (ix d) := pg_ofN (by have := hI.1; omega) ⟨h.1, by rw [← hI.2.1]; exact h.2⟩
theorem pgIsC.at {d : Int32} (h : pgIsC d) : ix d < 10 ∧ d = nI (ix d) := pg_ofN (by omega) ⟨h.1, h.2⟩
theorem pg_in0 {d : Int32} {N : Nat} (h0 : ¬ d < 0) (h : d < nI N) (hN : N < 2 ^ 31) : vp_in d N := by
  obtain ⟨h1, h2⟩ := pg_ofN hN ⟨by exact Int32.not_lt.mp h0, h⟩
  rw [h2]
  exact vp_in_nI h1 hN
/-- how many places below k have P -/
def pgN (P : Nat → Bool) : Nat → Nat
  | 0 => 0
  | k + 1 => pgN P k + (if P k = true then 1 else 0)
theorem pgN_le (P : Nat → Bool) : ∀ k, pgN P k ≤ k
  | 0 => Nat.le_refl 0
  | k + 1 => by
    have := pgN_le P k
    unfold pgN
    split <;> omega
theorem pgN_pad {P : Nat → Bool} {n : Nat} (h : ∀ j, n ≤ j → P j = false) : ∀ k, pgN P (n + k) = pgN P n
  | 0 => rfl
  | k + 1 => by
    show pgN P (n + k) + _ = _
    rw [pgN_pad h k, show P (n.add k) = false from h (n + k) (by omega)]
    rfl
theorem pgN_congr {P P2 : Nat → Bool} : ∀ {k : Nat}, (∀ j, j < k → P j = P2 j) → pgN P k = pgN P2 k
  | 0, _ => rfl
  | k + 1, h => by
    unfold pgN
    rw [pgN_congr (k := k) (fun j hj => h j (by omega)), h k (by omega)]
/-- how many disks are in crate c -/
abbrev pgCnt (σ : pgSt) (n : Nat) (c : Int32) : Int32 := nI (pgN (fun j => decide (σ 3 j = c)) n)
/-- disk j goes to a keeper, with an entry -/
abbrev pgHo (σ : pgSt) (j : Nat) (to : Int32) : pgSt := pgU (pgU (pgU σ 2 j to) 14 j to) 13 3 (σ 13 3 + 1)
/-- .. all disks of crate c below k -/
def pgHoN (σ : pgSt) (c to : Int32) (k : Nat) : pgSt := fun t j => if (t = 2 ∨ t = 14) ∧ j < k ∧ σ 3 j = c then to else if t = 13 ∧ j = 3 then σ 13 3 + pgCnt σ k c else σ t j
abbrev pgRes : Type := Nat × Int32 × pgSt
def sp_bring (σ : pgSt) (kind secr keeper : Int32) : pgRes :=
  if ¬ pgIsK keeper then (1, 0, σ) else if ¬ (0 ≤ kind ∧ kind < 3 ∧ 0 ≤ secr ∧ secr < 4) then (2, 0, σ) else if ¬ σ 13 0 < 60 then (3, 0, σ) else
    (0, σ 13 0, fun t j => if t = 13 then (if j = 0 then σ 13 0 + 1 else if j = 3 then σ 13 3 + 1 else σ t j) else if j = ix (σ 13 0) then (if t = 0 then kind else if t = 1 then secr else if t = 2 then keeper else if t = 14 then keeper else if t = 3 then -1 else if t = 6 then -1 else if t = 7 then -1 else if t = 9 then -1 else σ t j) else σ t j)
def sp_offer (σ : pgSt) (d to : Int32) : pgRes :=
  if ¬ (pgIsD σ d ∧ pgIsK to) then (1, 0, σ) else if to = σ 2 (ix d) then (2, 0, σ) else if ¬ pgLoose σ (ix d) then (3, 0, σ) else (0, σ 2 (ix d), pgU σ 6 (ix d) to)
def sp_answer (σ : pgSt) (d t : Int32) : pgRes :=
  if ¬ pgIsD σ d then (1, 0, σ) else if σ 5 (ix d) ≠ 0 ∨ σ 6 (ix d) = -1 then (3, 0, σ) else if t = 0 then (0, σ 2 (ix d), pgU σ 6 (ix d) (-1)) else (0, σ 6 (ix d), pgHo (pgU σ 6 (ix d) (-1)) (ix d) (σ 6 (ix d)))
def sp_pack (σ : pgSt) (d c : Int32) : pgRes :=
  if ¬ (pgIsD σ d ∧ pgIsC c) then (1, 0, σ) else if ¬ (pgLoose σ (ix d) ∧ σ 11 (ix c) = -1 ∧ σ 10 (ix c) = σ 2 (ix d)) then (3, 0, σ) else (0, pgCnt (pgU σ 3 (ix d) c) (ix (σ 13 0)) c, pgU σ 3 (ix d) c)
def sp_unpack (σ : pgSt) (d : Int32) : pgRes :=
  if ¬ pgIsD σ d then (1, 0, σ) else if σ 5 (ix d) ≠ 0 ∨ σ 3 (ix d) = -1 ∨ σ 11 (ix (σ 3 (ix d))) ≠ -1 then (3, 0, σ) else (0, σ 3 (ix d), pgU σ 3 (ix d) (-1))
def sp_seal (σ : pgSt) (c : Int32) : pgRes :=
  if ¬ pgIsC c then (1, 0, σ) else if σ 11 (ix c) ≠ -1 ∨ ¬ σ 13 1 < 100 then (3, 0, σ) else (0, σ 13 1, pgU (pgU (pgU σ 11 (ix c) (σ 13 1)) 12 (ix c) (pgCnt σ (ix (σ 13 0)) c)) 13 1 (σ 13 1 + 1))
def sp_open (σ : pgSt) (c k : Int32) : pgRes :=
  if ¬ pgIsC c then (1, 0, σ) else if ¬ (0 ≤ k ∧ k ≤ 99) then (2, 0, σ) else if σ 11 (ix c) = -1 then (3, 0, σ) else (0, k - σ 12 (ix c), if k - σ 12 (ix c) = 0 then pgU σ 11 (ix c) (-1) else pgU (pgU σ 11 (ix c) (-1)) 13 2 (σ 13 2 + 1))
def sp_carry (σ : pgSt) (c to : Int32) : pgRes :=
  if ¬ (pgIsC c ∧ pgIsK to) then (1, 0, σ) else if to = σ 10 (ix c) then (2, 0, σ) else if σ 11 (ix c) = -1 ∧ 0 < pgCnt σ (ix (σ 13 0)) c then (3, 0, σ) else (0, σ 10 (ix c), pgHoN (pgU σ 10 (ix c) to) c to (ix (σ 13 0)))
def sp_wipe (σ : pgSt) (d way w : Int32) : pgRes :=
  if ¬ (pgIsD σ d ∧ pgIsK w) then (1, 0, σ) else if ¬ (0 ≤ way ∧ way < 3) ∨ w = σ 2 (ix d) then (2, 0, σ) else if ¬ pgReach σ (ix d) ∨ σ 4 (ix d) = 1 ∨ σ 4 (ix d) = 3 then (3, 0, σ) else if way = σ 0 (ix d) ∧ σ 1 (ix d) < 3 then (0, 1, pgU (pgU (pgU σ 4 (ix d) 1) 7 (ix d) (σ 2 (ix d))) 8 (ix d) 0) else (0, 2, pgU (pgU (pgU σ 4 (ix d) 2) 7 (ix d) (σ 2 (ix d))) 8 (ix d) 0)
def sp_smash (σ : pgSt) (d w : Int32) : pgRes :=
  if ¬ (pgIsD σ d ∧ pgIsK w) then (1, 0, σ) else if w = σ 2 (ix d) then (2, 0, σ) else if ¬ pgReach σ (ix d) ∨ σ 4 (ix d) = 3 then (3, 0, σ) else (0, σ 4 (ix d), pgU σ 4 (ix d) 3)
def sp_check (σ : pgSt) (d w g : Int32) : pgRes :=
  if ¬ (pgIsD σ d ∧ pgIsK w) then (1, 0, σ) else if σ 4 (ix d) = 1 ∧ w = σ 7 (ix d) then (2, 0, σ) else if ¬ pgReach σ (ix d) ∨ σ 4 (ix d) ≠ 1 then (3, 0, σ) else if g = 0 then (0, 2, pgU (pgU σ 8 (ix d) g) 4 (ix d) 2) else (0, 1, pgU (pgU σ 8 (ix d) g) 4 (ix d) 1)
def sp_lose (σ : pgSt) (d : Int32) : pgRes :=
  if ¬ pgIsD σ d then (1, 0, σ) else if σ 5 (ix d) ≠ 0 then (3, 0, σ) else (0, σ 2 (ix d), pgU (pgU σ 5 (ix d) 1) 6 (ix d) (-1))
def sp_find (σ : pgSt) (d : Int32) : pgRes :=
  if ¬ pgIsD σ d then (1, 0, σ) else if σ 5 (ix d) = 0 then (3, 0, σ) else (0, σ 3 (ix d), pgU σ 5 (ix d) 0)
/-- the disks of keeper k below i that wait for a certificate get number v -/
def pgCe (σ : pgSt) (k v : Int32) (i : Nat) : pgSt := fun t j => if t = 9 ∧ j < i ∧ σ 2 j = k ∧ pgAw σ j then v else σ t j
abbrev pgCeN (σ : pgSt) (k : Int32) (i : Nat) : Nat := pgN (fun j => decide (σ 2 j = k ∧ pgAw σ j)) i
def sp_certify (σ : pgSt) (k : Int32) : pgRes :=
  if ¬ pgIsK k then (1, 0, σ) else if pgCeN σ k (ix (σ 13 0)) = 0 then (4, 0, σ) else (0, nI (pgCeN σ k (ix (σ 13 0))), pgU (pgCe σ k (σ 13 4) (ix (σ 13 0))) 13 4 (σ 13 4 + 1))
def sp_askD (σ : pgSt) (d : Int32) (t : Nat) : pgRes := if ¬ pgIsD σ d then (1, 0, σ) else (0, σ t (ix d), σ)
def sp_askC (σ : pgSt) (c : Int32) (t : Nat) : pgRes := if ¬ pgIsC c then (1, 0, σ) else (0, σ t (ix c), σ)
def sp_isDone (σ : pgSt) (d : Int32) : pgRes := if ¬ pgIsD σ d then (1, 0, σ) else (0, if pgFin σ (ix d) then 1 else 0, σ)
def sp_has (σ : pgSt) (k : Int32) : pgRes := if ¬ pgIsK k then (1, 0, σ) else (0, nI (pgN (fun j => decide (σ 2 j = k)) (ix (σ 13 0))), σ)
abbrev pgMis (σ : pgSt) : Int32 := nI (pgN (fun j => decide (σ 5 j ≠ 0)) (ix (σ 13 0)))
/-- the arrays' classes -/
abbrev pgTys (cD cC cI cZ cL : ClassId) : List (ClassId × FieldType) := [(cD, .object RX1), (cC, .object RX0), (cI, .int), (cL, .long)]
end
section
abbrev pgCr (n : Nat) (σ : pgSt) : Prop := ∀ j, j < n → σ 3 j = -1 ∨ ∃ c, c < 10 ∧ σ 3 j = nI c
theorem pgCx {c : Nat} {v : Int32} (hc : c < 10) (h : v = nI c) : v ≠ -1 ∧ ix v = c := by
  subst h
  exact ⟨pg_nm1 c hc, nI_clamp (by omega)⟩
section PGS
variable {ad : Nat → Nat} {σ : pgSt} {j c : Nat} {v : Int32}
theorem pgDs2 : (pgDv ad σ j).set 2 (.int v) = pgDv ad (pgU σ 2 j v) j := by simp [pgU]
theorem pgDs3 : (pgDv ad σ j).set 3 (.int v) = pgDv ad (pgU σ 14 j v) j := by simp [pgU]
theorem pgDs5 : (pgDv ad σ j).set 5 (.int v) = pgDv ad (pgU σ 6 j v) j := by simp [pgU]
theorem pgDs6 : (pgDv ad σ j).set 6 (.int v) = pgDv ad (pgU σ 4 j v) j := by simp [pgU]
theorem pgDs7 : (pgDv ad σ j).set 7 (.int v) = pgDv ad (pgU σ 7 j v) j := by simp [pgU]
theorem pgDs8 : (pgDv ad σ j).set 8 (.int v) = pgDv ad (pgU σ 8 j v) j := by simp [pgU]
theorem pgDs9 : (pgDv ad σ j).set 9 (.int v) = pgDv ad (pgU σ 5 j v) j := by simp [pgU]
theorem pgDs10 : (pgDv ad σ j).set 10 (.int v) = pgDv ad (pgU σ 9 j v) j := by simp [pgU]
theorem pgDs4n : (pgDv ad σ j).set 4 .null = pgDv ad (pgU σ 3 j (-1)) j := by simp [pgU, pgCv]
theorem pgDs4r (hc : c < 10) (h : v = nI c) : (pgDv ad σ j).set 4 (.ref (ad (3 + c))) = pgDv ad (pgU σ 3 j v) j := by
  have e := pgCv_ref (ad := ad) hc h
  simp [pgU, e]
theorem pgKs1 : (pgKv σ c).set 1 (.int v) = pgKv (pgU σ 10 c v) c := by simp [pgU]
theorem pgKs2 : (pgKv σ c).set 2 (.int v) = pgKv (pgU σ 11 c v) c := by simp [pgU]
theorem pgKs3 : (pgKv σ c).set 3 (.int v) = pgKv (pgU σ 12 c v) c := by simp [pgU]
theorem pgXs2 : (pgXv ad σ).set 2 (.int v) = pgXv ad (pgU σ 13 0 v) := by simp [pgU]
theorem pgXs3 : (pgXv ad σ).set 3 (.int v) = pgXv ad (pgU σ 13 1 v) := by simp [pgU]
theorem pgXs4 : (pgXv ad σ).set 4 (.int v) = pgXv ad (pgU σ 13 2 v) := by simp [pgU]
theorem pgXs5 : (pgXv ad σ).set 5 (.int v) = pgXv ad (pgU σ 13 3 v) := by simp [pgU]
theorem pgXs6 : (pgXv ad σ).set 6 (.int v) = pgXv ad (pgU σ 13 4 v) := by simp [pgU]
end PGS
theorem hdX0_init : yX0_init.cls ≠ "java/lang/invoke/MethodHandle" ∧ yX0_init.cls ≠ "java/lang/invoke/VarHandle" ∧ (parseMethodDescriptor yX0_init.desc).map (fun d => d.parameters.length) = some 1 := by decide +kernel
theorem hdX0_isSealed : yX0_isSealed.cls = RX0 ∧ yX0_isSealed.cls ≠ "java/lang/invoke/MethodHandle" ∧ yX0_isSealed.cls ≠ "java/lang/invoke/VarHandle" ∧ (parseMethodDescriptor yX0_isSealed.desc).map (fun d => d.parameters.length) = some 0 := by decide +kernel
theorem hdX1_init : yX1_init.cls ≠ "java/lang/invoke/MethodHandle" ∧ yX1_init.cls ≠ "java/lang/invoke/VarHandle" ∧ (parseMethodDescriptor yX1_init.desc).map (fun d => d.parameters.length) = some 2 := by decide +kernel
theorem hdX1_crateNumber : yX1_crateNumber.cls = RX1 ∧ yX1_crateNumber.cls ≠ "java/lang/invoke/MethodHandle" ∧ yX1_crateNumber.cls ≠ "java/lang/invoke/VarHandle" ∧ (parseMethodDescriptor yX1_crateNumber.desc).map (fun d => d.parameters.length) = some 0 := by decide +kernel
theorem hdX1_isSealedIn : yX1_isSealedIn.cls = RX1 ∧ yX1_isSealedIn.cls ≠ "java/lang/invoke/MethodHandle" ∧ yX1_isSealedIn.cls ≠ "java/lang/invoke/VarHandle" ∧ (parseMethodDescriptor yX1_isSealedIn.desc).map (fun d => d.parameters.length) = some 0 := by decide +kernel
theorem hdX1_isFinished : yX1_isFinished.cls = RX1 ∧ yX1_isFinished.cls ≠ "java/lang/invoke/MethodHandle" ∧ yX1_isFinished.cls ≠ "java/lang/invoke/VarHandle" ∧ (parseMethodDescriptor yX1_isFinished.desc).map (fun d => d.parameters.length) = some 0 := by decide +kernel
theorem hdX1_awaitsCertificate : yX1_awaitsCertificate.cls = RX1 ∧ yX1_awaitsCertificate.cls ≠ "java/lang/invoke/MethodHandle" ∧ yX1_awaitsCertificate.cls ≠ "java/lang/invoke/VarHandle" ∧ (parseMethodDescriptor yX1_awaitsCertificate.desc).map (fun d => d.parameters.length) = some 0 := by decide +kernel
theorem hdX2_init : yX2_init.cls ≠ "java/lang/invoke/MethodHandle" ∧ yX2_init.cls ≠ "java/lang/invoke/VarHandle" ∧ (parseMethodDescriptor yX2_init.desc).map (fun d => d.parameters.length) = some 0 := by decide +kernel
theorem hdX2_bring : yX2_bring.cls = RX2 ∧ yX2_bring.cls ≠ "java/lang/invoke/MethodHandle" ∧ yX2_bring.cls ≠ "java/lang/invoke/VarHandle" ∧ (parseMethodDescriptor yX2_bring.desc).map (fun d => d.parameters.length) = some 3 := by decide +kernel
theorem hdX2_offer : yX2_offer.cls = RX2 ∧ yX2_offer.cls ≠ "java/lang/invoke/MethodHandle" ∧ yX2_offer.cls ≠ "java/lang/invoke/VarHandle" ∧ (parseMethodDescriptor yX2_offer.desc).map (fun d => d.parameters.length) = some 2 := by decide +kernel
theorem hdX2_answer : yX2_answer.cls = RX2 ∧ yX2_answer.cls ≠ "java/lang/invoke/MethodHandle" ∧ yX2_answer.cls ≠ "java/lang/invoke/VarHandle" ∧ (parseMethodDescriptor yX2_answer.desc).map (fun d => d.parameters.length) = some 2 := by decide +kernel
theorem hdX2_pack : yX2_pack.cls = RX2 ∧ yX2_pack.cls ≠ "java/lang/invoke/MethodHandle" ∧ yX2_pack.cls ≠ "java/lang/invoke/VarHandle" ∧ (parseMethodDescriptor yX2_pack.desc).map (fun d => d.parameters.length) = some 2 := by decide +kernel
theorem hdX2_unpack : yX2_unpack.cls = RX2 ∧ yX2_unpack.cls ≠ "java/lang/invoke/MethodHandle" ∧ yX2_unpack.cls ≠ "java/lang/invoke/VarHandle" ∧ (parseMethodDescriptor yX2_unpack.desc).map (fun d => d.parameters.length) = some 1 := by decide +kernel
theorem hdX2_seal : yX2_seal.cls = RX2 ∧ yX2_seal.cls ≠ "java/lang/invoke/MethodHandle" ∧ yX2_seal.cls ≠ "java/lang/invoke/VarHandle" ∧ (parseMethodDescriptor yX2_seal.desc).map (fun d => d.parameters.length) = some 1 := by decide +kernel
theorem hdX2_open : yX2_open.cls = RX2 ∧ yX2_open.cls ≠ "java/lang/invoke/MethodHandle" ∧ yX2_open.cls ≠ "java/lang/invoke/VarHandle" ∧ (parseMethodDescriptor yX2_open.desc).map (fun d => d.parameters.length) = some 2 := by decide +kernel
theorem hdX2_carry : yX2_carry.cls = RX2 ∧ yX2_carry.cls ≠ "java/lang/invoke/MethodHandle" ∧ yX2_carry.cls ≠ "java/lang/invoke/VarHandle" ∧ (parseMethodDescriptor yX2_carry.desc).map (fun d => d.parameters.length) = some 2 := by decide +kernel
theorem hdX2_wipe : yX2_wipe.cls = RX2 ∧ yX2_wipe.cls ≠ "java/lang/invoke/MethodHandle" ∧ yX2_wipe.cls ≠ "java/lang/invoke/VarHandle" ∧ (parseMethodDescriptor yX2_wipe.desc).map (fun d => d.parameters.length) = some 3 := by decide +kernel
theorem hdX2_smash : yX2_smash.cls = RX2 ∧ yX2_smash.cls ≠ "java/lang/invoke/MethodHandle" ∧ yX2_smash.cls ≠ "java/lang/invoke/VarHandle" ∧ (parseMethodDescriptor yX2_smash.desc).map (fun d => d.parameters.length) = some 2 := by decide +kernel
theorem hdX2_check : yX2_check.cls = RX2 ∧ yX2_check.cls ≠ "java/lang/invoke/MethodHandle" ∧ yX2_check.cls ≠ "java/lang/invoke/VarHandle" ∧ (parseMethodDescriptor yX2_check.desc).map (fun d => d.parameters.length) = some 3 := by decide +kernel
theorem hdX2_lose : yX2_lose.cls = RX2 ∧ yX2_lose.cls ≠ "java/lang/invoke/MethodHandle" ∧ yX2_lose.cls ≠ "java/lang/invoke/VarHandle" ∧ (parseMethodDescriptor yX2_lose.desc).map (fun d => d.parameters.length) = some 1 := by decide +kernel
theorem hdX2_find : yX2_find.cls = RX2 ∧ yX2_find.cls ≠ "java/lang/invoke/MethodHandle" ∧ yX2_find.cls ≠ "java/lang/invoke/VarHandle" ∧ (parseMethodDescriptor yX2_find.desc).map (fun d => d.parameters.length) = some 1 := by decide +kernel
theorem hdX2_certify : yX2_certify.cls = RX2 ∧ yX2_certify.cls ≠ "java/lang/invoke/MethodHandle" ∧ yX2_certify.cls ≠ "java/lang/invoke/VarHandle" ∧ (parseMethodDescriptor yX2_certify.desc).map (fun d => d.parameters.length) = some 1 := by decide +kernel
theorem hdX2_disks : yX2_disks.cls = RX2 ∧ yX2_disks.cls ≠ "java/lang/invoke/MethodHandle" ∧ yX2_disks.cls ≠ "java/lang/invoke/VarHandle" ∧ (parseMethodDescriptor yX2_disks.desc).map (fun d => d.parameters.length) = some 0 := by decide +kernel
theorem hdX2_keeperOf : yX2_keeperOf.cls = RX2 ∧ yX2_keeperOf.cls ≠ "java/lang/invoke/MethodHandle" ∧ yX2_keeperOf.cls ≠ "java/lang/invoke/VarHandle" ∧ (parseMethodDescriptor yX2_keeperOf.desc).map (fun d => d.parameters.length) = some 1 := by decide +kernel
theorem hdX2_keeperByLog : yX2_keeperByLog.cls = RX2 ∧ yX2_keeperByLog.cls ≠ "java/lang/invoke/MethodHandle" ∧ yX2_keeperByLog.cls ≠ "java/lang/invoke/VarHandle" ∧ (parseMethodDescriptor yX2_keeperByLog.desc).map (fun d => d.parameters.length) = some 1 := by decide +kernel
theorem hdX2_crateOf : yX2_crateOf.cls = RX2 ∧ yX2_crateOf.cls ≠ "java/lang/invoke/MethodHandle" ∧ yX2_crateOf.cls ≠ "java/lang/invoke/VarHandle" ∧ (parseMethodDescriptor yX2_crateOf.desc).map (fun d => d.parameters.length) = some 1 := by decide +kernel
theorem hdX2_stateOf : yX2_stateOf.cls = RX2 ∧ yX2_stateOf.cls ≠ "java/lang/invoke/MethodHandle" ∧ yX2_stateOf.cls ≠ "java/lang/invoke/VarHandle" ∧ (parseMethodDescriptor yX2_stateOf.desc).map (fun d => d.parameters.length) = some 1 := by decide +kernel
theorem hdX2_isDone : yX2_isDone.cls = RX2 ∧ yX2_isDone.cls ≠ "java/lang/invoke/MethodHandle" ∧ yX2_isDone.cls ≠ "java/lang/invoke/VarHandle" ∧ (parseMethodDescriptor yX2_isDone.desc).map (fun d => d.parameters.length) = some 1 := by decide +kernel
theorem hdX2_offeredTo : yX2_offeredTo.cls = RX2 ∧ yX2_offeredTo.cls ≠ "java/lang/invoke/MethodHandle" ∧ yX2_offeredTo.cls ≠ "java/lang/invoke/VarHandle" ∧ (parseMethodDescriptor yX2_offeredTo.desc).map (fun d => d.parameters.length) = some 1 := by decide +kernel
theorem hdX2_certificateOf : yX2_certificateOf.cls = RX2 ∧ yX2_certificateOf.cls ≠ "java/lang/invoke/MethodHandle" ∧ yX2_certificateOf.cls ≠ "java/lang/invoke/VarHandle" ∧ (parseMethodDescriptor yX2_certificateOf.desc).map (fun d => d.parameters.length) = some 1 := by decide +kernel
theorem hdX2_crateKeeper : yX2_crateKeeper.cls = RX2 ∧ yX2_crateKeeper.cls ≠ "java/lang/invoke/MethodHandle" ∧ yX2_crateKeeper.cls ≠ "java/lang/invoke/VarHandle" ∧ (parseMethodDescriptor yX2_crateKeeper.desc).map (fun d => d.parameters.length) = some 1 := by decide +kernel
theorem hdX2_sealOf : yX2_sealOf.cls = RX2 ∧ yX2_sealOf.cls ≠ "java/lang/invoke/MethodHandle" ∧ yX2_sealOf.cls ≠ "java/lang/invoke/VarHandle" ∧ (parseMethodDescriptor yX2_sealOf.desc).map (fun d => d.parameters.length) = some 1 := by decide +kernel
theorem hdX2_has : yX2_has.cls = RX2 ∧ yX2_has.cls ≠ "java/lang/invoke/MethodHandle" ∧ yX2_has.cls ≠ "java/lang/invoke/VarHandle" ∧ (parseMethodDescriptor yX2_has.desc).map (fun d => d.parameters.length) = some 1 := by decide +kernel
theorem hdX2_missing : yX2_missing.cls = RX2 ∧ yX2_missing.cls ≠ "java/lang/invoke/MethodHandle" ∧ yX2_missing.cls ≠ "java/lang/invoke/VarHandle" ∧ (parseMethodDescriptor yX2_missing.desc).map (fun d => d.parameters.length) = some 0 := by decide +kernel
theorem hdX2_oddCounts : yX2_oddCounts.cls = RX2 ∧ yX2_oddCounts.cls ≠ "java/lang/invoke/MethodHandle" ∧ yX2_oddCounts.cls ≠ "java/lang/invoke/VarHandle" ∧ (parseMethodDescriptor yX2_oddCounts.desc).map (fun d => d.parameters.length) = some 0 := by decide +kernel
theorem hdX2_logged : yX2_logged.cls = RX2 ∧ yX2_logged.cls ≠ "java/lang/invoke/MethodHandle" ∧ yX2_logged.cls ≠ "java/lang/invoke/VarHandle" ∧ (parseMethodDescriptor yX2_logged.desc).map (fun d => d.parameters.length) = some 0 := by decide +kernel
theorem hdX2_certificates : yX2_certificates.cls = RX2 ∧ yX2_certificates.cls ≠ "java/lang/invoke/MethodHandle" ∧ yX2_certificates.cls ≠ "java/lang/invoke/VarHandle" ∧ (parseMethodDescriptor yX2_certificates.desc).map (fun d => d.parameters.length) = some 0 := by decide +kernel
theorem hdX2_findDisk : yX2_findDisk.cls = RX2 ∧ yX2_findDisk.cls ≠ "java/lang/invoke/MethodHandle" ∧ yX2_findDisk.cls ≠ "java/lang/invoke/VarHandle" ∧ (parseMethodDescriptor yX2_findDisk.desc).map (fun d => d.parameters.length) = some 1 := by decide +kernel
theorem hdX2_findCrate : yX2_findCrate.cls = RX2 ∧ yX2_findCrate.cls ≠ "java/lang/invoke/MethodHandle" ∧ yX2_findCrate.cls ≠ "java/lang/invoke/VarHandle" ∧ (parseMethodDescriptor yX2_findCrate.desc).map (fun d => d.parameters.length) = some 1 := by decide +kernel
theorem hdX2_countDisksIn : yX2_countDisksIn.cls = RX2 ∧ yX2_countDisksIn.cls ≠ "java/lang/invoke/MethodHandle" ∧ yX2_countDisksIn.cls ≠ "java/lang/invoke/VarHandle" ∧ (parseMethodDescriptor yX2_countDisksIn.desc).map (fun d => d.parameters.length) = some 1 := by decide +kernel
theorem hdX2_handOverDisksIn : yX2_handOverDisksIn.cls = RX2 ∧ yX2_handOverDisksIn.cls ≠ "java/lang/invoke/MethodHandle" ∧ yX2_handOverDisksIn.cls ≠ "java/lang/invoke/VarHandle" ∧ (parseMethodDescriptor yX2_handOverDisksIn.desc).map (fun d => d.parameters.length) = some 1 := by decide +kernel
theorem hdX2_handOver : yX2_handOver.cls = RX2 ∧ yX2_handOver.cls ≠ "java/lang/invoke/MethodHandle" ∧ yX2_handOver.cls ≠ "java/lang/invoke/VarHandle" ∧ (parseMethodDescriptor yX2_handOver.desc).map (fun d => d.parameters.length) = some 2 := by decide +kernel
theorem hdX2_requireKeeper : yX2_requireKeeper.cls ≠ "java/lang/invoke/MethodHandle" ∧ yX2_requireKeeper.cls ≠ "java/lang/invoke/VarHandle" ∧ (parseMethodDescriptor yX2_requireKeeper.desc).map (fun d => d.parameters.length) = some 1 := by decide +kernel
theorem hdX2_requireLoose : yX2_requireLoose.cls ≠ "java/lang/invoke/MethodHandle" ∧ yX2_requireLoose.cls ≠ "java/lang/invoke/VarHandle" ∧ (parseMethodDescriptor yX2_requireLoose.desc).map (fun d => d.parameters.length) = some 1 := by decide +kernel
theorem hdX2_requireWithinReach : yX2_requireWithinReach.cls ≠ "java/lang/invoke/MethodHandle" ∧ yX2_requireWithinReach.cls ≠ "java/lang/invoke/VarHandle" ∧ (parseMethodDescriptor yX2_requireWithinReach.desc).map (fun d => d.parameters.length) = some 1 := by decide +kernel
theorem hdX2_requireWitnessIsNotKeeper : yX2_requireWitnessIsNotKeeper.cls ≠ "java/lang/invoke/MethodHandle" ∧ yX2_requireWitnessIsNotKeeper.cls ≠ "java/lang/invoke/VarHandle" ∧ (parseMethodDescriptor yX2_requireWitnessIsNotKeeper.desc).map (fun d => d.parameters.length) = some 2 := by decide +kernel
theorem hdL_draw : yL_draw.cls ≠ "java/lang/invoke/MethodHandle" ∧ yL_draw.cls ≠ "java/lang/invoke/VarHandle" ∧ (parseMethodDescriptor yL_draw.desc).map (fun d => d.parameters.length) = some 3 := by decide +kernel
theorem hdL_asks : yL_asks.cls ≠ "java/lang/invoke/MethodHandle" ∧ yL_asks.cls ≠ "java/lang/invoke/VarHandle" ∧ (parseMethodDescriptor yL_asks.desc).map (fun d => d.parameters.length) = some 5 := by decide +kernel
theorem hdL_disk : yL_disk.cls ≠ "java/lang/invoke/MethodHandle" ∧ yL_disk.cls ≠ "java/lang/invoke/VarHandle" ∧ (parseMethodDescriptor yL_disk.desc).map (fun d => d.parameters.length) = some 2 := by decide +kernel
theorem hdL_all : yL_all.cls ≠ "java/lang/invoke/MethodHandle" ∧ yL_all.cls ≠ "java/lang/invoke/VarHandle" ∧ (parseMethodDescriptor yL_all.desc).map (fun d => d.parameters.length) = some 3 := by decide +kernel
theorem hdL_areSame : yL_areSame.cls ≠ "java/lang/invoke/MethodHandle" ∧ yL_areSame.cls ≠ "java/lang/invoke/VarHandle" ∧ (parseMethodDescriptor yL_areSame.desc).map (fun d => d.parameters.length) = some 4 := by decide +kernel
theorem hdL_isMissing : yL_isMissing.cls ≠ "java/lang/invoke/MethodHandle" ∧ yL_isMissing.cls ≠ "java/lang/invoke/VarHandle" ∧ (parseMethodDescriptor yL_isMissing.desc).map (fun d => d.parameters.length) = some 2 := by decide +kernel
theorem hdL_isShut : yL_isShut.cls ≠ "java/lang/invoke/MethodHandle" ∧ yL_isShut.cls ≠ "java/lang/invoke/VarHandle" ∧ (parseMethodDescriptor yL_isShut.desc).map (fun d => d.parameters.length) = some 2 := by decide +kernel
theorem hdL_isFree : yL_isFree.cls ≠ "java/lang/invoke/MethodHandle" ∧ yL_isFree.cls ≠ "java/lang/invoke/VarHandle" ∧ (parseMethodDescriptor yL_isFree.desc).map (fun d => d.parameters.length) = some 3 := by decide +kernel
theorem hdL_countIn : yL_countIn.cls ≠ "java/lang/invoke/MethodHandle" ∧ yL_countIn.cls ≠ "java/lang/invoke/VarHandle" ∧ (parseMethodDescriptor yL_countIn.desc).map (fun d => d.parameters.length) = some 3 := by decide +kernel
theorem hdL_isBook : yL_isBook.cls ≠ "java/lang/invoke/MethodHandle" ∧ yL_isBook.cls ≠ "java/lang/invoke/VarHandle" ∧ (parseMethodDescriptor yL_isBook.desc).map (fun d => d.parameters.length) = some 3 := by decide +kernel
theorem hdL_hands : yL_hands.cls ≠ "java/lang/invoke/MethodHandle" ∧ yL_hands.cls ≠ "java/lang/invoke/VarHandle" ∧ (parseMethodDescriptor yL_hands.desc).map (fun d => d.parameters.length) = some 7 := by decide +kernel
theorem hdL_packs : yL_packs.cls ≠ "java/lang/invoke/MethodHandle" ∧ yL_packs.cls ≠ "java/lang/invoke/VarHandle" ∧ (parseMethodDescriptor yL_packs.desc).map (fun d => d.parameters.length) = some 7 := by decide +kernel
theorem hdL_works : yL_works.cls ≠ "java/lang/invoke/MethodHandle" ∧ yL_works.cls ≠ "java/lang/invoke/VarHandle" ∧ (parseMethodDescriptor yL_works.desc).map (fun d => d.parameters.length) = some 10 := by decide +kernel
theorem hdL_loses : yL_loses.cls ≠ "java/lang/invoke/MethodHandle" ∧ yL_loses.cls ≠ "java/lang/invoke/VarHandle" ∧ (parseMethodDescriptor yL_loses.desc).map (fun d => d.parameters.length) = some 6 := by decide +kernel
theorem hdL_crates : yL_crates.cls ≠ "java/lang/invoke/MethodHandle" ∧ yL_crates.cls ≠ "java/lang/invoke/VarHandle" ∧ (parseMethodDescriptor yL_crates.desc).map (fun d => d.parameters.length) = some 7 := by decide +kernel
theorem hdL_certifies : yL_certifies.cls ≠ "java/lang/invoke/MethodHandle" ∧ yL_certifies.cls ≠ "java/lang/invoke/VarHandle" ∧ (parseMethodDescriptor yL_certifies.desc).map (fun d => d.parameters.length) = some 5 := by decide +kernel
theorem hdL_step : yL_step.cls ≠ "java/lang/invoke/MethodHandle" ∧ yL_step.cls ≠ "java/lang/invoke/VarHandle" ∧ (parseMethodDescriptor yL_step.desc).map (fun d => d.parameters.length) = some 10 := by decide +kernel
theorem hdL_book : yL_book.cls ≠ "java/lang/invoke/MethodHandle" ∧ yL_book.cls ≠ "java/lang/invoke/VarHandle" ∧ (parseMethodDescriptor yL_book.desc).map (fun d => d.parameters.length) = some 2 := by decide +kernel
theorem hdL_law : yL_law.cls ≠ "java/lang/invoke/MethodHandle" ∧ yL_law.cls ≠ "java/lang/invoke/VarHandle" ∧ (parseMethodDescriptor yL_law.desc).map (fun d => d.parameters.length) = some 1 := by decide +kernel
end
section
set_option maxHeartbeats 4000000 in
set_option maxRecDepth 100000 in
/-- Crate.isSealed -/
theorem c_X0_isSealed (l : Launch) (D : va_G) (cD cC cI cZ cL : ClassId) (A : Nat → Prop) (σ : pgSt) (n : Nat) (ad : Nat → Nat) (c : Nat) (hc : c < 10) : Met l yX0_isSealed (.code yX0_isSealed cX0_isSealed 1 (some .boolean) :: pgWd) ({ frames := 0, cells := 0, slots := 0, locals := 0 } : Room) (pgPc D (pgTys cD cC cI cZ cL) A (pgR D cD cC A σ n ad) [.ref (ad (3 + c))]) (va_Qi (fun (r : Int32) (_ : Unit) => r = if ¬ σ 11 c = -1 then 1 else 0) (fun _ t9 => pgR D cD cC A σ n ad t9.heap) A) 0 0 A := by
  refine pg_enter (own := RX0) (by decide) rfl (Nat.le_of_ble_eq_true rfl) (fun p e s m below meth cc9 B hr hnm => ?_)
  refine j_aload_n B dX0_isSealed_0 0 rfl rfl ?_
  refine j_get B (v := .int (σ 11 c)) pgX0 rfl (fun H h => pgR.cr h hc) 2 (by decide) q_35 rfl rfl dX0_isSealed_1 ?_
  refine j_iconst B (v := (-1)) dX0_isSealed_4 (by decide) ?_
  refine j_icmp_eq B 12 dX0_isSealed_5 (by decide) (fun h1 => ?_) (fun h1 => ?_)
  · refine j_iconst B (v := 0) dX0_isSealed_12 (by decide) ?_
    exact j_iret B hr rfl dX0_isSealed_13 (Nat.le_of_ble_eq_true rfl) (Nat.le_of_ble_eq_true rfl) () (by simp [*]) (fun H h => h)
  · refine j_iconst B (v := 1) dX0_isSealed_8 (by decide) ?_
    refine j_goto B 13 dX0_isSealed_9 (by decide) ?_
    exact j_iret B hr rfl dX0_isSealed_13 (Nat.le_of_ble_eq_true rfl) (Nat.le_of_ble_eq_true rfl) () (by simp [*]) (fun H h => h)
set_option maxHeartbeats 4000000 in
set_option maxRecDepth 100000 in
/-- Disk.crateNumber -/
theorem c_X1_crateNumber (l : Launch) (D : va_G) (cD cC cI cZ cL : ClassId) (A : Nat → Prop) (σ : pgSt) (n : Nat) (ad : Nat → Nat) (j : Nat) (hj : j < n) (hcr : pgCr n σ) : Met l yX1_crateNumber (.code yX1_crateNumber cX1_crateNumber 1 (some .int) :: pgWd) ({ frames := 0, cells := 0, slots := 0, locals := 0 } : Room) (pgPc D (pgTys cD cC cI cZ cL) A (pgR D cD cC A σ n ad) [.ref (ad (13 + j))]) (va_Qi (fun (r : Int32) (_ : Unit) => r = σ 3 j) (fun _ t9 => pgR D cD cC A σ n ad t9.heap) A) 0 0 A := by
  refine pg_enter (own := RX1) (by decide) rfl (Nat.le_of_ble_eq_true rfl) (fun p e s m below meth cc9 B hr hnm => ?_)
  refine j_aload_n B dX1_crateNumber_0 0 rfl rfl ?_
  rcases hcr j hj with e3 | ⟨c1, hc2, e3⟩
  · refine j_get B (v := .null) pgX1 rfl (fun H h => pgR.dk h hj) 4 (by decide) q_200 rfl (congrArg some (pgCv_null e3)) dX1_crateNumber_1 ?_
    refine j_ifnonnullN B dX1_crateNumber_4 ?_
    refine j_iconst B (v := (-1)) dX1_crateNumber_7 (by decide) ?_
    refine j_goto B 18 dX1_crateNumber_8 (by decide) ?_
    exact j_iret B hr rfl dX1_crateNumber_18 (Nat.le_of_ble_eq_true rfl) (Nat.le_of_ble_eq_true rfl) () (by simp [*]) (fun H h => h)
  · have xe3 := pgCx hc2 e3
    refine j_get B (v := .ref (ad (3 + c1))) pgX1 rfl (fun H h => pgR.dk h hj) 4 (by decide) q_200 rfl (congrArg some (pgCv_ref hc2 e3)) dX1_crateNumber_1 ?_
    refine j_ifnonnull B 11 dX1_crateNumber_4 (by decide) ?_
    refine j_aload_n B dX1_crateNumber_11 0 rfl rfl ?_
    refine j_get B (v := .ref (ad (3 + c1))) pgX1 rfl (fun H h => pgR.dk h hj) 4 (by decide) q_200 rfl (congrArg some (pgCv_ref hc2 e3)) dX1_crateNumber_12 ?_
    refine j_get B (v := .int (nI c1)) pgX0 rfl (fun H h => pgR.cr h hc2) 0 (by decide) q_32 rfl rfl dX1_crateNumber_15 ?_
    exact j_iret B hr rfl dX1_crateNumber_18 (Nat.le_of_ble_eq_true rfl) (Nat.le_of_ble_eq_true rfl) () (by simp [*]) (fun H h => h)
set_option maxHeartbeats 4000000 in
set_option maxRecDepth 100000 in
/-- Disk.isSealedIn -/
theorem c_X1_isSealedIn (l : Launch) (D : va_G) (cD cC cI cZ cL : ClassId) (A : Nat → Prop) (σ : pgSt) (n : Nat) (ad : Nat → Nat) (j : Nat) (hj : j < n) (hcr : pgCr n σ) : Met l yX1_isSealedIn (.code yX1_isSealedIn cX1_isSealedIn 1 (some .boolean) :: pgWd) ({ frames := 1, cells := 0, slots := 0, locals := 20 } : Room) (pgPc D (pgTys cD cC cI cZ cL) A (pgR D cD cC A σ n ad) [.ref (ad (13 + j))]) (va_Qi (fun (r : Int32) (_ : Unit) => r = if pgShut σ j then 1 else 0) (fun _ t9 => pgR D cD cC A σ n ad t9.heap) A) 0 0 A := by
  refine pg_enter (own := RX1) (by decide) rfl (Nat.le_of_ble_eq_true rfl) (fun p e s m below meth cc9 B hr hnm => ?_)
  refine j_aload_n B dX1_isSealedIn_0 0 rfl rfl ?_
  rcases hcr j hj with e3 | ⟨c1, hc2, e3⟩
  · refine j_get B (v := .null) pgX1 rfl (fun H h => pgR.dk h hj) 4 (by decide) q_200 rfl (congrArg some (pgCv_null e3)) dX1_isSealedIn_1 ?_
    refine j_ifnullN B 21 dX1_isSealedIn_4 (by decide) ?_
    refine j_iconst B (v := 0) dX1_isSealedIn_21 (by decide) ?_
    exact j_iret B hr rfl dX1_isSealedIn_22 (Nat.le_of_ble_eq_true rfl) (Nat.le_of_ble_eq_true rfl) () (by grind) (fun H h => h)
  · have xe3 := pgCx hc2 e3
    refine j_get B (v := .ref (ad (3 + c1))) pgX1 rfl (fun H h => pgR.dk h hj) 4 (by decide) q_200 rfl (congrArg some (pgCv_ref hc2 e3)) dX1_isSealedIn_1 ?_
    refine j_ifnull B dX1_isSealedIn_4 ?_
    refine j_aload_n B dX1_isSealedIn_7 0 rfl rfl ?_
    refine j_get B (v := .ref (ad (3 + c1))) pgX1 rfl (fun H h => pgR.dk h hj) 4 (by decide) q_200 rfl (congrArg some (pgCv_ref hc2 e3)) dX1_isSealedIn_8 ?_
    refine j_cVi B (S := Unit) 0 [] (WdC' := fun _ => pgR D cD cC A σ n ad) (fun _ => pgR D cD cC A σ n ad) (c_X0_isSealed l D cD cC cI cZ cL A σ n ad c1 hc2) rfl (fun H h => pgR.cr h hc2) q_359 q_330 q_331 q_2 q_332 hdX0_isSealed rfl ⟨Nat.le_of_ble_eq_true rfl, Nat.le_of_ble_eq_true rfl⟩ (Nat.le_of_ble_eq_true rfl) dX1_isSealedIn_11 rfl ⟨Nat.le_of_ble_eq_true rfl, Nat.le_of_ble_eq_true rfl⟩ (fun _ h => h) (fun _ _ _ _ h => h) (fun _ h => h) (fun _ _ _ _ h _ _ => h) (fun r4 _ hp5 => ?_)
    by_cases h6 : ¬ σ 11 c1 = -1
    · obtain rfl : r4 = 1 := by rw [hp5]; exact if_pos h6
      refine j_if_eq B 21 dX1_isSealedIn_14 (by decide) (fun h7 => (absurd h7 (by decide))) (fun h7 => ?_)
      refine j_iconst B (v := 1) dX1_isSealedIn_17 (by decide) ?_
      refine j_goto B 22 dX1_isSealedIn_18 (by decide) ?_
      exact j_iret B hr rfl dX1_isSealedIn_22 (Nat.le_of_ble_eq_true rfl) (Nat.le_of_ble_eq_true rfl) () (by grind) (fun H h => h)
    · obtain rfl : r4 = 0 := by rw [hp5]; exact if_neg h6
      refine j_if_eq B 21 dX1_isSealedIn_14 (by decide) (fun h8 => ?_) (fun h8 => (absurd (by decide) h8))
      refine j_iconst B (v := 0) dX1_isSealedIn_21 (by decide) ?_
      exact j_iret B hr rfl dX1_isSealedIn_22 (Nat.le_of_ble_eq_true rfl) (Nat.le_of_ble_eq_true rfl) () (by grind) (fun H h => h)
set_option maxHeartbeats 4000000 in
set_option maxRecDepth 100000 in
/-- Disk.isFinished -/
theorem c_X1_isFinished (l : Launch) (D : va_G) (cD cC cI cZ cL : ClassId) (A : Nat → Prop) (σ : pgSt) (n : Nat) (ad : Nat → Nat) (j : Nat) (hj : j < n) : Met l yX1_isFinished (.code yX1_isFinished cX1_isFinished 1 (some .boolean) :: pgWd) ({ frames := 0, cells := 0, slots := 0, locals := 0 } : Room) (pgPc D (pgTys cD cC cI cZ cL) A (pgR D cD cC A σ n ad) [.ref (ad (13 + j))]) (va_Qi (fun (r : Int32) (_ : Unit) => r = if pgFin σ j then 1 else 0) (fun _ t9 => pgR D cD cC A σ n ad t9.heap) A) 0 0 A := by
  refine pg_enter (own := RX1) (by decide) rfl (Nat.le_of_ble_eq_true rfl) (fun p e s m below meth cc9 B hr hnm => ?_)
  refine j_aload_n B dX1_isFinished_0 0 rfl rfl ?_
  refine j_get B (v := .int (σ 4 j)) pgX1 rfl (fun H h => pgR.dk h hj) 6 (by decide) q_204 rfl rfl dX1_isFinished_1 ?_
  refine j_iconst B (v := 3) dX1_isFinished_4 (by decide) ?_
  refine j_icmp_eq B 23 dX1_isFinished_5 (by decide) (fun h1 => ?_) (fun h1 => ?_)
  · refine j_iconst B (v := 1) dX1_isFinished_23 (by decide) ?_
    refine j_goto B 28 dX1_isFinished_24 (by decide) ?_
    exact j_iret B hr rfl dX1_isFinished_28 (Nat.le_of_ble_eq_true rfl) (Nat.le_of_ble_eq_true rfl) () (by grind) (fun H h => h)
  · refine j_aload_n B dX1_isFinished_8 0 rfl rfl ?_
    refine j_get B (v := .int (σ 4 j)) pgX1 rfl (fun H h => pgR.dk h hj) 6 (by decide) q_204 rfl rfl dX1_isFinished_9 ?_
    refine j_iconst B (v := 1) dX1_isFinished_12 (by decide) ?_
    refine j_icmp_ne B 27 dX1_isFinished_13 (by decide) (fun h2 => ?_) (fun h2 => ?_)
    · refine j_iconst B (v := 0) dX1_isFinished_27 (by decide) ?_
      exact j_iret B hr rfl dX1_isFinished_28 (Nat.le_of_ble_eq_true rfl) (Nat.le_of_ble_eq_true rfl) () (by grind) (fun H h => h)
    · refine j_aload_n B dX1_isFinished_16 0 rfl rfl ?_
      refine j_get B (v := .int (σ 8 j)) pgX1 rfl (fun H h => pgR.dk h hj) 8 (by decide) q_208 rfl rfl dX1_isFinished_17 ?_
      refine j_if_eq B 27 dX1_isFinished_20 (by decide) (fun h3 => ?_) (fun h3 => ?_)
      · refine j_iconst B (v := 0) dX1_isFinished_27 (by decide) ?_
        exact j_iret B hr rfl dX1_isFinished_28 (Nat.le_of_ble_eq_true rfl) (Nat.le_of_ble_eq_true rfl) () (by grind) (fun H h => h)
      · refine j_iconst B (v := 1) dX1_isFinished_23 (by decide) ?_
        refine j_goto B 28 dX1_isFinished_24 (by decide) ?_
        exact j_iret B hr rfl dX1_isFinished_28 (Nat.le_of_ble_eq_true rfl) (Nat.le_of_ble_eq_true rfl) () (by grind) (fun H h => h)
set_option maxHeartbeats 4000000 in
set_option maxRecDepth 100000 in
/-- Disk.awaitsCertificate -/
theorem c_X1_awaitsCertificate (l : Launch) (D : va_G) (cD cC cI cZ cL : ClassId) (A : Nat → Prop) (σ : pgSt) (n : Nat) (ad : Nat → Nat) (j : Nat) (hj : j < n) : Met l yX1_awaitsCertificate (.code yX1_awaitsCertificate cX1_awaitsCertificate 1 (some .boolean) :: pgWd) ({ frames := 1, cells := 0, slots := 0, locals := 20 } : Room) (pgPc D (pgTys cD cC cI cZ cL) A (pgR D cD cC A σ n ad) [.ref (ad (13 + j))]) (va_Qi (fun (r : Int32) (_ : Unit) => r = if pgAw σ j then 1 else 0) (fun _ t9 => pgR D cD cC A σ n ad t9.heap) A) 0 0 A := by
  refine pg_enter (own := RX1) (by decide) rfl (Nat.le_of_ble_eq_true rfl) (fun p e s m below meth cc9 B hr hnm => ?_)
  refine j_aload_n B dX1_awaitsCertificate_0 0 rfl rfl ?_
  refine j_cVi B (S := Unit) 0 [] (WdC' := fun _ => pgR D cD cC A σ n ad) (fun _ => pgR D cD cC A σ n ad) (c_X1_isFinished l D cD cC cI cZ cL A σ n ad j hj) rfl (fun H h => pgR.dk h hj) q_412 q_277 q_278 q_9 q_279 hdX1_isFinished rfl ⟨Nat.le_of_ble_eq_true rfl, Nat.le_of_ble_eq_true rfl⟩ (Nat.le_of_ble_eq_true rfl) dX1_awaitsCertificate_1 rfl ⟨Nat.le_of_ble_eq_true rfl, Nat.le_of_ble_eq_true rfl⟩ (fun _ h => h) (fun _ _ _ _ h => h) (fun _ h => h) (fun _ _ _ _ h _ _ => h) (fun r1 _ hp2 => ?_)
  by_cases h3 : pgFin σ j
  · obtain rfl : r1 = 1 := by rw [hp2]; exact if_pos h3
    refine j_if_eq B 26 dX1_awaitsCertificate_4 (by decide) (fun h4 => (absurd h4 (by decide))) (fun h4 => ?_)
    refine j_aload_n B dX1_awaitsCertificate_7 0 rfl rfl ?_
    refine j_get B (v := .int (σ 5 j)) pgX1 rfl (fun H h => pgR.dk h hj) 9 (by decide) q_211 rfl rfl dX1_awaitsCertificate_8 ?_
    refine j_if_ne B 26 dX1_awaitsCertificate_11 (by decide) (fun h5 => ?_) (fun h5 => ?_)
    · refine j_iconst B (v := 0) dX1_awaitsCertificate_26 (by decide) ?_
      exact j_iret B hr rfl dX1_awaitsCertificate_27 (Nat.le_of_ble_eq_true rfl) (Nat.le_of_ble_eq_true rfl) () (by grind) (fun H h => h)
    · refine j_aload_n B dX1_awaitsCertificate_14 0 rfl rfl ?_
      refine j_get B (v := .int (σ 9 j)) pgX1 rfl (fun H h => pgR.dk h hj) 10 (by decide) q_212 rfl rfl dX1_awaitsCertificate_15 ?_
      refine j_iconst B (v := (-1)) dX1_awaitsCertificate_18 (by decide) ?_
      refine j_icmp_ne B 26 dX1_awaitsCertificate_19 (by decide) (fun h6 => ?_) (fun h6 => ?_)
      · refine j_iconst B (v := 0) dX1_awaitsCertificate_26 (by decide) ?_
        exact j_iret B hr rfl dX1_awaitsCertificate_27 (Nat.le_of_ble_eq_true rfl) (Nat.le_of_ble_eq_true rfl) () (by grind) (fun H h => h)
      · refine j_iconst B (v := 1) dX1_awaitsCertificate_22 (by decide) ?_
        refine j_goto B 27 dX1_awaitsCertificate_23 (by decide) ?_
        exact j_iret B hr rfl dX1_awaitsCertificate_27 (Nat.le_of_ble_eq_true rfl) (Nat.le_of_ble_eq_true rfl) () (by grind) (fun H h => h)
  · obtain rfl : r1 = 0 := by rw [hp2]; exact if_neg h3
    refine j_if_eq B 26 dX1_awaitsCertificate_4 (by decide) (fun h7 => ?_) (fun h7 => (absurd (by decide) h7))
    refine j_iconst B (v := 0) dX1_awaitsCertificate_26 (by decide) ?_
    exact j_iret B hr rfl dX1_awaitsCertificate_27 (Nat.le_of_ble_eq_true rfl) (Nat.le_of_ble_eq_true rfl) () (by grind) (fun H h => h)
set_option maxHeartbeats 4000000 in
set_option maxRecDepth 100000 in
/-- handOver -/
theorem c_X2_handOver (l : Launch) (D : va_G) (cD cC cI cZ cL : ClassId) (A : Nat → Prop) (σ : pgSt) (n : Nat) (ad : Nat → Nat) (j : Nat) (hj : j < n) (to : Int32) : Met l yX2_handOver (.code yX2_handOver cX2_handOver 3 none :: pgWd) ({ frames := 0, cells := 0, slots := 0, locals := 0 } : Room) (pgPc D (pgTys cD cC cI cZ cL) A (pgR D cD cC A σ n ad) [.ref (ad 0), .ref (ad (13 + j)), .int to]) (va_Qv (fun (_ : Unit) => True) (fun _ t9 => pgR D cD cC A (pgHo σ j to) n ad t9.heap) A) 0 0 A := by
  refine pg_enter (own := RX2) (by decide) rfl (Nat.le_of_ble_eq_true rfl) (fun p e s m below meth cc9 B hr hnm => ?_)
  refine j_fact (fun H h => pgR.inA h) (fun hIn => ?_)
  refine j_aload_n B dX2_handOver_0 1 rfl rfl ?_
  refine j_iload_n B dX2_handOver_1 2 rfl rfl ?_
  refine j_put B (Wd' := pgR D cD cC A (pgU σ 2 j to) n ad) pgX1 tyX1 tyX1_ok nmX1 rfl (fun H h => pgR.dk h hj) 2 (by decide) q_198 rfl rfl rfl rfl rfl (Nat.le_of_ble_eq_true rfl) dX2_handOver_2 (hIn (13 + j) (by omega)) (fun H H1 h hc hz ho => pgR.putD h hj (by decide) pgDs2 hc ho) ?_
  refine j_aload_n B dX2_handOver_5 1 rfl rfl ?_
  refine j_iload_n B dX2_handOver_6 2 rfl rfl ?_
  refine j_put B (Wd' := pgR D cD cC A (pgU (pgU σ 2 j to) 14 j to) n ad) pgX1 tyX1 tyX1_ok nmX1 rfl (fun H h => pgR.dk h hj) 3 (by decide) q_199 rfl rfl rfl rfl rfl (Nat.le_of_ble_eq_true rfl) dX2_handOver_7 (hIn (13 + j) (by omega)) (fun H H1 h hc hz ho => pgR.putD h hj (by decide) pgDs3 hc ho) ?_
  refine j_aload_n B dX2_handOver_10 0 rfl rfl ?_
  refine j_dup B dX2_handOver_11 rfl ?_
  refine j_get B (v := .int (σ 13 3)) pgX2 rfl (fun H h => pgR.x h) 5 (by decide) q_52 rfl rfl dX2_handOver_12 ?_
  refine j_iconst B (v := 1) dX2_handOver_15 (by decide) ?_
  refine j_iadd B dX2_handOver_16 ?_
  refine j_put B (Wd' := pgR D cD cC A (pgU (pgU (pgU σ 2 j to) 14 j to) 13 3 ((σ 13 3) + 1)) n ad) pgX2 tyX2 tyX2_ok nmX2 rfl (fun H h => pgR.x h) 5 (by decide) q_52 rfl rfl rfl rfl rfl (Nat.le_of_ble_eq_true rfl) dX2_handOver_17 (hIn 0 (by omega)) (fun H H1 h hc hz ho => pgR.putX h pgXs5 hc ho) ?_
  exact j_vret B hr dX2_handOver_20 (Nat.le_of_ble_eq_true rfl) (Nat.le_of_ble_eq_true rfl) () trivial (fun H h => h)
set_option maxHeartbeats 4000000 in
set_option maxRecDepth 100000 in
/-- requireKeeper -/
theorem c_X2_requireKeeper (l : Launch) (hl : l.stackTraces = false) (D : va_G) (cD cC cI cZ cL : ClassId) (A : Nat → Prop) (σ : pgSt) (n : Nat) (ad : Nat → Nat) (k0 : Int32) : vx_Met l yX2_requireKeeper (.code yX2_requireKeeper cX2_requireKeeper 1 none :: pgWd) ({ frames := 6, cells := 1, slots := 6, locals := 82 } : Room) (pgPc D (pgTys cD cC cI cZ cL) A (pgR D cD cC A σ n ad) [.int k0]) (va_Qv (fun (_ : Unit) => pgIsK k0) (fun _ t9 => pgR D cD cC A σ n ad t9.heap) A) (pgX A (fun k => k = 1 ∧ ¬ pgIsK k0) (pgR D cD cC A σ n ad)) 1 6 A := by
  refine pg_enterX (own := RX2) (by decide) rfl (Nat.le_of_ble_eq_true rfl) (fun p e s m below meth cc9 B hr hnm ht => ?_)
  refine j_iload_n B dX2_requireKeeper_0 0 rfl rfl ?_
  refine j_if_lt B 10 dX2_requireKeeper_1 (by decide) (fun h1 => ?_) (fun h1 => ?_)
  · exact j_throw (k := 1) pgTI pgTI2 pgTI3 rfl q_86 q_6 rfl B hl ht (is := 191) (text := "there is no such keeper") (by decide) dX2_requireKeeper_10 dX2_requireKeeper_13 dX2_requireKeeper_14 dX2_requireKeeper_16 dX2_requireKeeper_19 (Nat.le_of_ble_eq_true rfl) (Nat.le_of_ble_eq_true rfl) (Nat.le_of_ble_eq_true rfl) (Nat.le_of_ble_eq_true rfl) (Nat.le_of_ble_eq_true rfl) (Nat.le_of_ble_eq_true rfl) (by grind) (fun H H1 h hq => pgR.more h hq)
  · refine j_iload_n B dX2_requireKeeper_4 0 rfl rfl ?_
    refine j_bipush B (v := 8) dX2_requireKeeper_5 (by decide) ?_
    refine j_icmp_lt B 20 dX2_requireKeeper_7 (by decide) (fun h2 => ?_) (fun h2 => ?_)
    · exact j_x (j_vret B hr dX2_requireKeeper_20 (Nat.le_of_ble_eq_true rfl) (Nat.le_of_ble_eq_true rfl) () (by grind) (fun H h => h))
    · exact j_throw (k := 1) pgTI pgTI2 pgTI3 rfl q_86 q_6 rfl B hl ht (is := 191) (text := "there is no such keeper") (by decide) dX2_requireKeeper_10 dX2_requireKeeper_13 dX2_requireKeeper_14 dX2_requireKeeper_16 dX2_requireKeeper_19 (Nat.le_of_ble_eq_true rfl) (Nat.le_of_ble_eq_true rfl) (Nat.le_of_ble_eq_true rfl) (Nat.le_of_ble_eq_true rfl) (Nat.le_of_ble_eq_true rfl) (Nat.le_of_ble_eq_true rfl) (by grind) (fun H H1 h hq => pgR.more h hq)
set_option maxHeartbeats 4000000 in
set_option maxRecDepth 100000 in
/-- requireLoose -/
theorem c_X2_requireLoose (l : Launch) (hl : l.stackTraces = false) (D : va_G) (cD cC cI cZ cL : ClassId) (A : Nat → Prop) (σ : pgSt) (n : Nat) (ad : Nat → Nat) (j : Nat) (hj : j < n) (hcr : pgCr n σ) : vx_Met l yX2_requireLoose (.code yX2_requireLoose cX2_requireLoose 1 none :: pgWd) ({ frames := 6, cells := 1, slots := 6, locals := 82 } : Room) (pgPc D (pgTys cD cC cI cZ cL) A (pgR D cD cC A σ n ad) [.ref (ad (13 + j))]) (va_Qv (fun (_ : Unit) => pgLoose σ j) (fun _ t9 => pgR D cD cC A σ n ad t9.heap) A) (pgX A (fun k => k = 3 ∧ ¬ pgLoose σ j) (pgR D cD cC A σ n ad)) 1 6 A := by
  refine pg_enterX (own := RX2) (by decide) rfl (Nat.le_of_ble_eq_true rfl) (fun p e s m below meth cc9 B hr hnm ht => ?_)
  refine j_aload_n B dX2_requireLoose_0 0 rfl rfl ?_
  refine j_get B (v := .int (σ 5 j)) pgX1 rfl (fun H h => pgR.dk h hj) 9 (by decide) q_210 rfl rfl dX2_requireLoose_1 ?_
  refine j_if_ne B 22 dX2_requireLoose_4 (by decide) (fun h1 => ?_) (fun h1 => ?_)
  · exact j_throw (k := 3) pgTS pgTS2 pgTS3 rfl q_173 q_8 rfl B hl ht (is := 193) (text := "the disk is missing, offered or in a crate") (by decide) dX2_requireLoose_22 dX2_requireLoose_25 dX2_requireLoose_26 dX2_requireLoose_28 dX2_requireLoose_31 (Nat.le_of_ble_eq_true rfl) (Nat.le_of_ble_eq_true rfl) (Nat.le_of_ble_eq_true rfl) (Nat.le_of_ble_eq_true rfl) (Nat.le_of_ble_eq_true rfl) (Nat.le_of_ble_eq_true rfl) (by grind) (fun H H1 h hq => pgR.more h hq)
  · refine j_aload_n B dX2_requireLoose_7 0 rfl rfl ?_
    refine j_get B (v := .int (σ 6 j)) pgX1 rfl (fun H h => pgR.dk h hj) 5 (by decide) q_203 rfl rfl dX2_requireLoose_8 ?_
    refine j_iconst B (v := (-1)) dX2_requireLoose_11 (by decide) ?_
    refine j_icmp_ne B 22 dX2_requireLoose_12 (by decide) (fun h2 => ?_) (fun h2 => ?_)
    · exact j_throw (k := 3) pgTS pgTS2 pgTS3 rfl q_173 q_8 rfl B hl ht (is := 193) (text := "the disk is missing, offered or in a crate") (by decide) dX2_requireLoose_22 dX2_requireLoose_25 dX2_requireLoose_26 dX2_requireLoose_28 dX2_requireLoose_31 (Nat.le_of_ble_eq_true rfl) (Nat.le_of_ble_eq_true rfl) (Nat.le_of_ble_eq_true rfl) (Nat.le_of_ble_eq_true rfl) (Nat.le_of_ble_eq_true rfl) (Nat.le_of_ble_eq_true rfl) (by grind) (fun H H1 h hq => pgR.more h hq)
    · refine j_aload_n B dX2_requireLoose_15 0 rfl rfl ?_
      rcases hcr j hj with e5 | ⟨c3, hc4, e5⟩
      · refine j_get B (v := .null) pgX1 rfl (fun H h => pgR.dk h hj) 4 (by decide) q_201 rfl (congrArg some (pgCv_null e5)) dX2_requireLoose_16 ?_
        refine j_ifnullN B 32 dX2_requireLoose_19 (by decide) ?_
        exact j_x (j_vret B hr dX2_requireLoose_32 (Nat.le_of_ble_eq_true rfl) (Nat.le_of_ble_eq_true rfl) () (by grind) (fun H h => h))
      · have xe5 := pgCx hc4 e5
        refine j_get B (v := .ref (ad (3 + c3))) pgX1 rfl (fun H h => pgR.dk h hj) 4 (by decide) q_201 rfl (congrArg some (pgCv_ref hc4 e5)) dX2_requireLoose_16 ?_
        refine j_ifnull B dX2_requireLoose_19 ?_
        exact j_throw (k := 3) pgTS pgTS2 pgTS3 rfl q_173 q_8 rfl B hl ht (is := 193) (text := "the disk is missing, offered or in a crate") (by decide) dX2_requireLoose_22 dX2_requireLoose_25 dX2_requireLoose_26 dX2_requireLoose_28 dX2_requireLoose_31 (Nat.le_of_ble_eq_true rfl) (Nat.le_of_ble_eq_true rfl) (Nat.le_of_ble_eq_true rfl) (Nat.le_of_ble_eq_true rfl) (Nat.le_of_ble_eq_true rfl) (Nat.le_of_ble_eq_true rfl) (by grind) (fun H H1 h hq => pgR.more h hq)
set_option maxHeartbeats 4000000 in
set_option maxRecDepth 100000 in
/-- requireWithinReach -/
theorem c_X2_requireWithinReach (l : Launch) (hl : l.stackTraces = false) (D : va_G) (cD cC cI cZ cL : ClassId) (A : Nat → Prop) (σ : pgSt) (n : Nat) (ad : Nat → Nat) (j : Nat) (hj : j < n) (hcr : pgCr n σ) : vx_Met l yX2_requireWithinReach (.code yX2_requireWithinReach cX2_requireWithinReach 1 none :: pgWd) ({ frames := 6, cells := 1, slots := 6, locals := 82 } : Room) (pgPc D (pgTys cD cC cI cZ cL) A (pgR D cD cC A σ n ad) [.ref (ad (13 + j))]) (va_Qv (fun (_ : Unit) => pgReach σ j) (fun _ t9 => pgR D cD cC A σ n ad t9.heap) A) (pgX A (fun k => k = 3 ∧ ¬ pgReach σ j) (pgR D cD cC A σ n ad)) 1 6 A := by
  refine pg_enterX (own := RX2) (by decide) rfl (Nat.le_of_ble_eq_true rfl) (fun p e s m below meth cc9 B hr hnm ht => ?_)
  refine j_aload_n B dX2_requireWithinReach_0 0 rfl rfl ?_
  refine j_get B (v := .int (σ 5 j)) pgX1 rfl (fun H h => pgR.dk h hj) 9 (by decide) q_210 rfl rfl dX2_requireWithinReach_1 ?_
  refine j_if_ne B 22 dX2_requireWithinReach_4 (by decide) (fun h1 => ?_) (fun h1 => ?_)
  · exact j_throw (k := 3) pgTS pgTS2 pgTS3 rfl q_173 q_8 rfl B hl ht (is := 198) (text := "the disk is missing, offered or in a sealed crate") (by decide) dX2_requireWithinReach_22 dX2_requireWithinReach_25 dX2_requireWithinReach_26 dX2_requireWithinReach_28 dX2_requireWithinReach_31 (Nat.le_of_ble_eq_true rfl) (Nat.le_of_ble_eq_true rfl) (Nat.le_of_ble_eq_true rfl) (Nat.le_of_ble_eq_true rfl) (Nat.le_of_ble_eq_true rfl) (Nat.le_of_ble_eq_true rfl) (by grind) (fun H H1 h hq => pgR.more h hq)
  · refine j_aload_n B dX2_requireWithinReach_7 0 rfl rfl ?_
    refine j_get B (v := .int (σ 6 j)) pgX1 rfl (fun H h => pgR.dk h hj) 5 (by decide) q_203 rfl rfl dX2_requireWithinReach_8 ?_
    refine j_iconst B (v := (-1)) dX2_requireWithinReach_11 (by decide) ?_
    refine j_icmp_ne B 22 dX2_requireWithinReach_12 (by decide) (fun h2 => ?_) (fun h2 => ?_)
    · exact j_throw (k := 3) pgTS pgTS2 pgTS3 rfl q_173 q_8 rfl B hl ht (is := 198) (text := "the disk is missing, offered or in a sealed crate") (by decide) dX2_requireWithinReach_22 dX2_requireWithinReach_25 dX2_requireWithinReach_26 dX2_requireWithinReach_28 dX2_requireWithinReach_31 (Nat.le_of_ble_eq_true rfl) (Nat.le_of_ble_eq_true rfl) (Nat.le_of_ble_eq_true rfl) (Nat.le_of_ble_eq_true rfl) (Nat.le_of_ble_eq_true rfl) (Nat.le_of_ble_eq_true rfl) (by grind) (fun H H1 h hq => pgR.more h hq)
    · refine j_aload_n B dX2_requireWithinReach_15 0 rfl rfl ?_
      refine j_cVi B (S := Unit) 0 [] (WdC' := fun _ => pgR D cD cC A σ n ad) (fun _ => pgR D cD cC A σ n ad) (c_X1_isSealedIn l D cD cC cI cZ cL A σ n ad j hj hcr) rfl (fun H h => pgR.dk h hj) q_355 q_356 q_357 q_9 q_358 hdX1_isSealedIn rfl ⟨Nat.le_of_ble_eq_true rfl, Nat.le_of_ble_eq_true rfl⟩ (Nat.le_of_ble_eq_true rfl) dX2_requireWithinReach_16 rfl ⟨Nat.le_of_ble_eq_true rfl, Nat.le_of_ble_eq_true rfl⟩ (fun _ h => h) (fun _ _ _ _ h => h) (fun _ h => h) (fun _ _ _ _ h _ _ => h) (fun r3 _ hp4 => ?_)
      by_cases h5 : pgShut σ j
      · obtain rfl : r3 = 1 := by rw [hp4]; exact if_pos h5
        refine j_if_eq B 32 dX2_requireWithinReach_19 (by decide) (fun h6 => (absurd h6 (by decide))) (fun h6 => ?_)
        exact j_throw (k := 3) pgTS pgTS2 pgTS3 rfl q_173 q_8 rfl B hl ht (is := 198) (text := "the disk is missing, offered or in a sealed crate") (by decide) dX2_requireWithinReach_22 dX2_requireWithinReach_25 dX2_requireWithinReach_26 dX2_requireWithinReach_28 dX2_requireWithinReach_31 (Nat.le_of_ble_eq_true rfl) (Nat.le_of_ble_eq_true rfl) (Nat.le_of_ble_eq_true rfl) (Nat.le_of_ble_eq_true rfl) (Nat.le_of_ble_eq_true rfl) (Nat.le_of_ble_eq_true rfl) (by grind) (fun H H1 h hq => pgR.more h hq)
      · obtain rfl : r3 = 0 := by rw [hp4]; exact if_neg h5
        refine j_if_eq B 32 dX2_requireWithinReach_19 (by decide) (fun h7 => ?_) (fun h7 => (absurd (by decide) h7))
        exact j_x (j_vret B hr dX2_requireWithinReach_32 (Nat.le_of_ble_eq_true rfl) (Nat.le_of_ble_eq_true rfl) () (by grind) (fun H h => h))
set_option maxHeartbeats 4000000 in
set_option maxRecDepth 100000 in
/-- requireWitnessIsNotKeeper -/
theorem c_X2_requireWitnessIsNotKeeper (l : Launch) (hl : l.stackTraces = false) (D : va_G) (cD cC cI cZ cL : ClassId) (A : Nat → Prop) (σ : pgSt) (n : Nat) (ad : Nat → Nat) (j : Nat) (hj : j < n) (w : Int32) : vx_Met l yX2_requireWitnessIsNotKeeper (.code yX2_requireWitnessIsNotKeeper cX2_requireWitnessIsNotKeeper 2 none :: pgWd) ({ frames := 6, cells := 1, slots := 6, locals := 82 } : Room) (pgPc D (pgTys cD cC cI cZ cL) A (pgR D cD cC A σ n ad) [.ref (ad (13 + j)), .int w]) (va_Qv (fun (_ : Unit) => ¬ w = σ 2 j) (fun _ t9 => pgR D cD cC A σ n ad t9.heap) A) (pgX A (fun k => k = 2 ∧ w = σ 2 j) (pgR D cD cC A σ n ad)) 1 6 A := by
  refine pg_enterX (own := RX2) (by decide) rfl (Nat.le_of_ble_eq_true rfl) (fun p e s m below meth cc9 B hr hnm ht => ?_)
  refine j_iload_n B dX2_requireWitnessIsNotKeeper_0 1 rfl rfl ?_
  refine j_aload_n B dX2_requireWitnessIsNotKeeper_1 0 rfl rfl ?_
  refine j_get B (v := .int (σ 2 j)) pgX1 rfl (fun H h => pgR.dk h hj) 2 (by decide) q_198 rfl rfl dX2_requireWitnessIsNotKeeper_2 ?_
  refine j_icmp_ne B 18 dX2_requireWitnessIsNotKeeper_5 (by decide) (fun h1 => ?_) (fun h1 => ?_)
  · exact j_x (j_vret B hr dX2_requireWitnessIsNotKeeper_18 (Nat.le_of_ble_eq_true rfl) (Nat.le_of_ble_eq_true rfl) () (by grind) (fun H h => h))
  · exact j_throw (k := 2) pgTA pgTA2 pgTA3 rfl q_157 q_7 rfl B hl ht (is := 200) (text := "the witness is the keeper of the disk") (by decide) dX2_requireWitnessIsNotKeeper_8 dX2_requireWitnessIsNotKeeper_11 dX2_requireWitnessIsNotKeeper_12 dX2_requireWitnessIsNotKeeper_14 dX2_requireWitnessIsNotKeeper_17 (Nat.le_of_ble_eq_true rfl) (Nat.le_of_ble_eq_true rfl) (Nat.le_of_ble_eq_true rfl) (Nat.le_of_ble_eq_true rfl) (Nat.le_of_ble_eq_true rfl) (Nat.le_of_ble_eq_true rfl) (by grind) (fun H H1 h hq => pgR.more h hq)
end
section
theorem pgBd_n {n : Nat} {ad : Nat → Nat} {i : Nat} (h : pgBd n ad i = none) : ¬ i < n := by
  intro q
  simp [pgBd, q] at h
theorem pgBd_s {n : Nat} {ad : Nat → Nat} {i y : Nat} (h : pgBd n ad i = some y) : i < n ∧ y = ad (13 + i) := by
  by_cases q : i < n
  · simp [pgBd, q] at h
    exact ⟨q, h.symm⟩
  · simp [pgBd, q] at h
theorem pgBd_nI {n : Nat} {ad : Nat → Nat} {i : Nat} (hi : i < 60) (h : pgBd n ad (ix (nI i)) = none) : ¬ i < n := by
  rw [show ix (nI i) = i from nI_clamp (by omega)] at h
  exact pgBd_n h
theorem pgBd_sI {n : Nat} {ad : Nat → Nat} {i y : Nat} (hi : i < 60) (h : pgBd n ad (ix (nI i)) = some y) : i < n ∧ y = ad (13 + i) := by
  rw [show ix (nI i) = i from nI_clamp (by omega)] at h
  exact pgBd_s h
theorem pgIsD_iff {n : Nat} {σ : pgSt} {d : Int32} (hI : pgI n σ) : pgIsD σ d ↔ ¬ d < 0 ∧ ix d < n := by
  constructor
  · intro h
    exact ⟨fun h2 => Int32.lt_irrefl (Int32.lt_of_lt_of_le h2 h.1), (h.at hI).1⟩
  · intro ⟨h1, h2⟩
    obtain ⟨j, hj, rfl⟩ := nI_of h1
    rw [show ix (nI j) = j from nI_clamp hj] at h2
    refine ⟨Int32.not_lt.mp h1, ?_⟩
    rw [hI.2.1]
    exact (nI_ltI hj (by have := hI.1; omega)).mpr h2
theorem pgIsD_60 {n : Nat} {σ : pgSt} {d : Int32} (hI : pgI n σ) (h : ¬ d < 60) : ¬ pgIsD σ d := by
  intro q
  obtain ⟨h1, h2⟩ := q.at hI
  rw [h2] at h
  exact h ((nI_ltI (a := ix d) (b := 60) (by have := hI.1; omega) (by omega)).mpr (by have := hI.1; omega))
theorem pg_in60 {d : Int32} (h0 : ¬ d < 0) (h : d < 60) : vp_in d 60 := pg_in0 h0 h (by omega)
theorem pg_in10 {d : Int32} (h0 : ¬ d < 0) (h : d < 10) : vp_in d 10 := pg_in0 h0 h (by omega)
theorem pg_eqN {i N : Nat} (hi : i ≤ N) (hN : N < 2 ^ 31) (h : nI N ≤ nI i) : N = i := by
  have := (nI_leI hN (by omega)).mp h
  omega
theorem pg_ltN {i N : Nat} (hN : N < 2 ^ 31) (hi : i ≤ N) (h : ¬ nI N ≤ nI i) : i < N := by
  rcases Nat.lt_or_ge i N with q | q
  · exact q
  · exact absurd (nI_le q (by omega)) h
theorem pgN_t {P : Nat → Bool} {i : Nat} (h : P i = true) : pgN P (i + 1) = pgN P i + 1 := by
  show pgN P i + _ = _
  rw [if_pos h]
theorem pgN_f {P : Nat → Bool} {i : Nat} (h : ¬ P i = true) : pgN P (i + 1) = pgN P i := by
  show pgN P i + _ = _
  rw [if_neg h]
  rfl
theorem pgN_t2 {P : Nat → Bool} {i : Nat} {x : Int32} (hx : x = nI (pgN P i)) (h : P i = true) : x + 1 = nI (pgN P (i + 1)) := by
  rw [hx, pgN_t h]
  exact nI_1 _
theorem pgN_f2 {P : Nat → Bool} {i : Nat} {x : Int32} (hx : x = nI (pgN P i)) (h : ¬ P i = true) : x = nI (pgN P (i + 1)) := by
  rw [hx, pgN_f h]
theorem pgN_60 {n : Nat} {Q : Nat → Prop} (dq : DecidablePred Q) (hn : n ≤ 60) : pgN (fun j => decide (j < n ∧ Q j)) 60 = pgN (fun j => decide (Q j)) n := by
  obtain ⟨k, hk⟩ : ∃ k, 60 = n + k := ⟨60 - n, by omega⟩
  rw [hk, pgN_pad (fun j hj => decide_eq_false (fun h => by have := h.1; omega)) k]
  exact pgN_congr (fun j hj => by simp [hj])
theorem j_loop {p : Program} {l : Launch} {e : Env} {R : Room} {s : State} {m : MethodId} {args : Array Value} {below : List Frame} {meth : Method} {c : Code} {nL : Nat} {A : Nat → Prop} {cells slots : Nat} {Q : State → Prop} {pc : Nat} {st : List Value} {X : Type} {N : Nat} (inv : Nat → X → Prop) (WdX : Nat → X → Heap → Prop) (LX : Nat → X → List (Nat × Value)) (step : ∀ (i : Nat) (x : X), i ≤ N → inv i x → (i < N → ∀ x2 : X, inv (i + 1) x2 → pgJ p l e R s m args below meth c nL A (WdX (i + 1) x2) cells slots Q pc (LX (i + 1) x2) st) → pgJ p l e R s m args below meth c nL A (WdX i x) cells slots Q pc (LX i x) st) : ∀ (i : Nat) (x : X), i ≤ N → inv i x → pgJ p l e R s m args below meth c nL A (WdX i x) cells slots Q pc (LX i x) st := by
  have key : ∀ (f i : Nat) (x : X), i ≤ N → N ≤ i + f → inv i x → pgJ p l e R s m args below meth c nL A (WdX i x) cells slots Q pc (LX i x) st := by
    intro f
    induction f with
    | zero =>
      intro i x h1 h2 h3
      exact step i x h1 h3 (fun h => by omega)
    | succ f ih =>
      intro i x h1 h2 h3
      exact step i x h1 h3 (fun h x2 hx2 => ih (i + 1) x2 (by omega) (by omega) hx2)
  exact fun i x h1 h3 => key N i x h1 (by omega) h3
set_option maxHeartbeats 4000000 in
set_option maxRecDepth 100000 in
/-- findDisk -/
theorem c_X2_findDisk (l : Launch) (hl : l.stackTraces = false) (D : va_G) (cD cC cI cZ cL : ClassId) (A : Nat → Prop) (σ : pgSt) (n : Nat) (ad : Nat → Nat) (hI : pgI n σ) (d : Int32) : vx_Met l yX2_findDisk (.code yX2_findDisk cX2_findDisk 3 (some (.object "Shredroll$Disk")) :: pgWd) ({ frames := 6, cells := 1, slots := 6, locals := 82 } : Room) (pgPc D (pgTys cD cC cI cZ cL) A (pgR D cD cC A σ n ad) [.ref (ad 0), .int d]) (va_Qr (fun (_ : Unit) => True) (fun _ a t9 => (a = ad (13 + ix d) ∧ pgIsD σ d) ∧ pgR D cD cC A σ n ad t9.heap) A) (pgX A (fun k => k = 1 ∧ ¬ pgIsD σ d) (pgR D cD cC A σ n ad)) 1 6 A := by
  refine pg_enterX (own := RX2) (by decide) rfl (Nat.le_of_ble_eq_true rfl) (fun p e s m below meth cc9 B hr hnm ht => ?_)
  refine j_iload_n B dX2_findDisk_0 1 rfl rfl ?_
  refine j_if_lt B 13 dX2_findDisk_1 (by decide) (fun h1 => ?_) (fun h1 => ?_)
  · refine j_null B dX2_findDisk_13 ?_
    refine j_goto B 23 dX2_findDisk_14 (by decide) ?_
    refine j_astore_nN B (L' := [(2, .null), (0, .ref (ad 0)), (1, .int d)]) dX2_findDisk_23 rfl (by decide) rfl ?_
    refine j_aload_nN B dX2_findDisk_24 0 rfl rfl ?_
    refine j_ifnonnullN B dX2_findDisk_25 ?_
    exact j_throw (k := 1) pgTI pgTI2 pgTI3 rfl q_86 q_6 rfl B hl ht (is := 186) (text := "there is no such disk") (by decide) dX2_findDisk_28 dX2_findDisk_31 dX2_findDisk_32 dX2_findDisk_34 dX2_findDisk_37 (Nat.le_of_ble_eq_true rfl) (Nat.le_of_ble_eq_true rfl) (Nat.le_of_ble_eq_true rfl) (Nat.le_of_ble_eq_true rfl) (Nat.le_of_ble_eq_true rfl) (Nat.le_of_ble_eq_true rfl) ⟨rfl, fun q => by have q1 := (pgIsD_iff hI).mp q; have q2 := fun z => pgIsD_60 (d := d) hI z q; grind⟩ (fun H H1 h hq => pgR.more h hq)
  · refine j_iload_n B dX2_findDisk_4 1 rfl rfl ?_
    refine j_aload_n B dX2_findDisk_5 0 rfl rfl ?_
    refine j_get B (v := .ref (ad 1)) pgX2 rfl (fun H h => pgR.x h) 0 (by decide) q_47 rfl rfl dX2_findDisk_6 ?_
    refine j_alen B (fun H h => pgR.bd h) 0 rfl (v := 60) rfl dX2_findDisk_9 ?_
    refine j_icmp_lt B 17 dX2_findDisk_10 (by decide) (fun h2 => ?_) (fun h2 => ?_)
    · refine j_aload_n B dX2_findDisk_17 0 rfl rfl ?_
      refine j_get B (v := .ref (ad 1)) pgX2 rfl (fun H h => pgR.x h) 0 (by decide) q_47 rfl rfl dX2_findDisk_18 ?_
      refine j_iload_n B dX2_findDisk_21 1 rfl rfl ?_
      refine j_aald B (fun H h => pgR.bd h) 0 rfl (pg_in60 h1 h2) dX2_findDisk_22 (fun h3 => ?_) (fun y4 h3 => ?_)
      · have nh3 := pgBd_n h3
        refine j_astore_nN B (L' := [(2, .null), (0, .ref (ad 0)), (1, .int d)]) dX2_findDisk_23 rfl (by decide) rfl ?_
        refine j_aload_nN B dX2_findDisk_24 0 rfl rfl ?_
        refine j_ifnonnullN B dX2_findDisk_25 ?_
        exact j_throw (k := 1) pgTI pgTI2 pgTI3 rfl q_86 q_6 rfl B hl ht (is := 186) (text := "there is no such disk") (by decide) dX2_findDisk_28 dX2_findDisk_31 dX2_findDisk_32 dX2_findDisk_34 dX2_findDisk_37 (Nat.le_of_ble_eq_true rfl) (Nat.le_of_ble_eq_true rfl) (Nat.le_of_ble_eq_true rfl) (Nat.le_of_ble_eq_true rfl) (Nat.le_of_ble_eq_true rfl) (Nat.le_of_ble_eq_true rfl) ⟨rfl, fun q => by have q1 := (pgIsD_iff hI).mp q; have q2 := fun z => pgIsD_60 (d := d) hI z q; grind⟩ (fun H H1 h hq => pgR.more h hq)
      · obtain ⟨jh3, rfl⟩ := pgBd_s h3
        refine j_astore_n B (L' := [(2, .ref (ad (13 + ix d))), (0, .ref (ad 0)), (1, .int d)]) dX2_findDisk_23 rfl (by decide) rfl ?_
        refine j_aload_n B dX2_findDisk_24 0 rfl rfl ?_
        refine j_ifnonnull B 38 dX2_findDisk_25 (by decide) ?_
        refine j_aload_n B dX2_findDisk_38 0 rfl rfl ?_
        exact j_x (j_aret B hr dX2_findDisk_39 (Nat.le_of_ble_eq_true rfl) (Nat.le_of_ble_eq_true rfl) ⟨rfl, (pgIsD_iff hI).mpr (by grind)⟩ (fun H h => h))
    · refine j_null B dX2_findDisk_13 ?_
      refine j_goto B 23 dX2_findDisk_14 (by decide) ?_
      refine j_astore_nN B (L' := [(2, .null), (0, .ref (ad 0)), (1, .int d)]) dX2_findDisk_23 rfl (by decide) rfl ?_
      refine j_aload_nN B dX2_findDisk_24 0 rfl rfl ?_
      refine j_ifnonnullN B dX2_findDisk_25 ?_
      exact j_throw (k := 1) pgTI pgTI2 pgTI3 rfl q_86 q_6 rfl B hl ht (is := 186) (text := "there is no such disk") (by decide) dX2_findDisk_28 dX2_findDisk_31 dX2_findDisk_32 dX2_findDisk_34 dX2_findDisk_37 (Nat.le_of_ble_eq_true rfl) (Nat.le_of_ble_eq_true rfl) (Nat.le_of_ble_eq_true rfl) (Nat.le_of_ble_eq_true rfl) (Nat.le_of_ble_eq_true rfl) (Nat.le_of_ble_eq_true rfl) ⟨rfl, fun q => by have q1 := (pgIsD_iff hI).mp q; have q2 := fun z => pgIsD_60 (d := d) hI z q; grind⟩ (fun H H1 h hq => pgR.more h hq)
set_option maxHeartbeats 4000000 in
set_option maxRecDepth 100000 in
/-- findCrate -/
theorem c_X2_findCrate (l : Launch) (hl : l.stackTraces = false) (D : va_G) (cD cC cI cZ cL : ClassId) (A : Nat → Prop) (σ : pgSt) (n : Nat) (ad : Nat → Nat) (d : Int32) : vx_Met l yX2_findCrate (.code yX2_findCrate cX2_findCrate 3 (some (.object "Shredroll$Crate")) :: pgWd) ({ frames := 6, cells := 1, slots := 6, locals := 82 } : Room) (pgPc D (pgTys cD cC cI cZ cL) A (pgR D cD cC A σ n ad) [.ref (ad 0), .int d]) (va_Qr (fun (_ : Unit) => True) (fun _ a t9 => (a = ad (3 + ix d) ∧ pgIsC d) ∧ pgR D cD cC A σ n ad t9.heap) A) (pgX A (fun k => k = 1 ∧ ¬ pgIsC d) (pgR D cD cC A σ n ad)) 1 6 A := by
  refine pg_enterX (own := RX2) (by decide) rfl (Nat.le_of_ble_eq_true rfl) (fun p e s m below meth cc9 B hr hnm ht => ?_)
  refine j_iload_n B dX2_findCrate_0 1 rfl rfl ?_
  refine j_if_lt B 13 dX2_findCrate_1 (by decide) (fun h1 => ?_) (fun h1 => ?_)
  · refine j_null B dX2_findCrate_13 ?_
    refine j_goto B 23 dX2_findCrate_14 (by decide) ?_
    refine j_astore_nN B (L' := [(2, .null), (0, .ref (ad 0)), (1, .int d)]) dX2_findCrate_23 rfl (by decide) rfl ?_
    refine j_aload_nN B dX2_findCrate_24 0 rfl rfl ?_
    refine j_ifnonnullN B dX2_findCrate_25 ?_
    exact j_throw (k := 1) pgTI pgTI2 pgTI3 rfl q_86 q_6 rfl B hl ht (is := 189) (text := "there is no such crate") (by decide) dX2_findCrate_28 dX2_findCrate_31 dX2_findCrate_32 dX2_findCrate_34 dX2_findCrate_37 (Nat.le_of_ble_eq_true rfl) (Nat.le_of_ble_eq_true rfl) (Nat.le_of_ble_eq_true rfl) (Nat.le_of_ble_eq_true rfl) (Nat.le_of_ble_eq_true rfl) (Nat.le_of_ble_eq_true rfl) ⟨rfl, fun q => by have q1 := fun z : d < 0 => Int32.lt_irrefl (Int32.lt_of_lt_of_le z q.1); grind⟩ (fun H H1 h hq => pgR.more h hq)
  · refine j_iload_n B dX2_findCrate_4 1 rfl rfl ?_
    refine j_aload_n B dX2_findCrate_5 0 rfl rfl ?_
    refine j_get B (v := .ref (ad 2)) pgX2 rfl (fun H h => pgR.x h) 1 (by decide) q_48 rfl rfl dX2_findCrate_6 ?_
    refine j_alen B (fun H h => pgR.ac h) 1 rfl (v := 10) rfl dX2_findCrate_9 ?_
    refine j_icmp_lt B 17 dX2_findCrate_10 (by decide) (fun h2 => ?_) (fun h2 => ?_)
    · refine j_aload_n B dX2_findCrate_17 0 rfl rfl ?_
      refine j_get B (v := .ref (ad 2)) pgX2 rfl (fun H h => pgR.x h) 1 (by decide) q_48 rfl rfl dX2_findCrate_18 ?_
      refine j_iload_n B dX2_findCrate_21 1 rfl rfl ?_
      refine j_aald B (fun H h => pgR.ac h) 1 rfl (pg_in10 h1 h2) dX2_findCrate_22 (fun h3 => ?_) (fun y4 h3 => ?_)
      · exact absurd h3 (by simp)
      · obtain rfl := Option.some.inj h3
        refine j_astore_n B (L' := [(2, .ref (ad (3 + ix d))), (0, .ref (ad 0)), (1, .int d)]) dX2_findCrate_23 rfl (by decide) rfl ?_
        refine j_aload_n B dX2_findCrate_24 0 rfl rfl ?_
        refine j_ifnonnull B 38 dX2_findCrate_25 (by decide) ?_
        refine j_aload_n B dX2_findCrate_38 0 rfl rfl ?_
        exact j_x (j_aret B hr dX2_findCrate_39 (Nat.le_of_ble_eq_true rfl) (Nat.le_of_ble_eq_true rfl) ⟨rfl, Int32.not_lt.mp h1, h2⟩ (fun H h => h))
    · refine j_null B dX2_findCrate_13 ?_
      refine j_goto B 23 dX2_findCrate_14 (by decide) ?_
      refine j_astore_nN B (L' := [(2, .null), (0, .ref (ad 0)), (1, .int d)]) dX2_findCrate_23 rfl (by decide) rfl ?_
      refine j_aload_nN B dX2_findCrate_24 0 rfl rfl ?_
      refine j_ifnonnullN B dX2_findCrate_25 ?_
      exact j_throw (k := 1) pgTI pgTI2 pgTI3 rfl q_86 q_6 rfl B hl ht (is := 189) (text := "there is no such crate") (by decide) dX2_findCrate_28 dX2_findCrate_31 dX2_findCrate_32 dX2_findCrate_34 dX2_findCrate_37 (Nat.le_of_ble_eq_true rfl) (Nat.le_of_ble_eq_true rfl) (Nat.le_of_ble_eq_true rfl) (Nat.le_of_ble_eq_true rfl) (Nat.le_of_ble_eq_true rfl) (Nat.le_of_ble_eq_true rfl) ⟨rfl, fun q => by have q1 := fun z : d < 0 => Int32.lt_irrefl (Int32.lt_of_lt_of_le z q.1); grind⟩ (fun H H1 h hq => pgR.more h hq)
set_option maxHeartbeats 4000000 in
set_option maxRecDepth 100000 in
/-- countDisksIn -/
theorem c_X2_countDisksIn (l : Launch) (D : va_G) (cD cC cI cZ cL : ClassId) (A : Nat → Prop) (σ : pgSt) (n : Nat) (ad : Nat → Nat) (c : Nat) (hc : c < 10) (hn9 : n ≤ 60) (hcr : pgCr n σ) : Met l yX2_countDisksIn (.code yX2_countDisksIn cX2_countDisksIn 7 (some .int) :: pgWd) ({ frames := 1, cells := 0, slots := 0, locals := 20 } : Room) (pgPc D (pgTys cD cC cI cZ cL) A (pgR D cD cC A σ n ad) [.ref (ad 0), .ref (ad (3 + c))]) (va_Qi (fun (r : Int32) (_ : Unit) => r = pgCnt σ n (nI c)) (fun _ t9 => pgR D cD cC A σ n ad t9.heap) A) 0 0 A := by
  refine pg_enter (own := RX2) (by decide) rfl (Nat.le_of_ble_eq_true rfl) (fun p e s m below meth cc9 B hr hnm => ?_)
  refine j_iconst B (v := 0) dX2_countDisksIn_0 (by decide) ?_
  refine j_istore_n B (L' := [(2, .int 0), (0, .ref (ad 0)), (1, .ref (ad (3 + c)))]) dX2_countDisksIn_1 rfl (by decide) rfl ?_
  refine j_aload_n B dX2_countDisksIn_2 1 rfl rfl ?_
  refine j_get B (v := .ref (ad 1)) pgX2 rfl (fun H h => pgR.x h) 0 (by decide) q_47 rfl rfl dX2_countDisksIn_3 ?_
  refine j_astore_n B (L' := [(3, .ref (ad 1)), (2, .int 0), (0, .ref (ad 0)), (1, .ref (ad (3 + c)))]) dX2_countDisksIn_6 rfl (by decide) rfl ?_
  refine j_aload_n B dX2_countDisksIn_7 0 rfl rfl ?_
  refine j_alen B (fun H h => pgR.bd h) 0 rfl (v := 60) rfl dX2_countDisksIn_8 ?_
  refine j_istore B (L' := [(4, .int 60), (3, .ref (ad 1)), (2, .int 0), (0, .ref (ad 0)), (1, .ref (ad (3 + c)))]) dX2_countDisksIn_9 (by decide) rfl ?_
  refine j_iconst B (v := 0) dX2_countDisksIn_11 (by decide) ?_
  refine j_istore B (L' := [(5, .int 0), (4, .int 60), (3, .ref (ad 1)), (2, .int 0), (0, .ref (ad 0)), (1, .ref (ad (3 + c)))]) dX2_countDisksIn_12 (by decide) rfl ?_
  refine j_locals [0, 1, 2, 3, 5, 4] rfl ?_
  refine j_loop (N := 60) (X := Int32) (fun i x => x = nI (pgN (fun j => decide (j < n ∧ σ 3 j = nI c)) i)) (fun i x => pgR D cD cC A σ n ad) (fun i x => [(5, .int (nI i)), (4, .int 60), (3, .ref (ad 1)), (2, .int x), (1, .ref (ad (3 + c))), (0, .ref (ad 0))]) (fun i x hi hv ih => ?_) 0 0 (by omega) rfl
  refine j_iload B dX2_countDisksIn_14 0 rfl ?_
  refine j_iload B dX2_countDisksIn_16 1 rfl ?_
  refine j_icmp_ge B 53 dX2_countDisksIn_18 (by decide) (fun h1 => ?_) (fun h1 => ?_)
  · obtain rfl := pg_eqN hi (by omega) h1
    refine j_iload_n B dX2_countDisksIn_53 3 rfl rfl ?_
    exact j_iret B hr rfl dX2_countDisksIn_54 (Nat.le_of_ble_eq_true rfl) (Nat.le_of_ble_eq_true rfl) () (hv.trans (congrArg nI (pgN_60 _ hn9))) (fun H h => h)
  · have hlt := pg_ltN (N := 60) (by omega) hi h1
    refine j_aload_n B dX2_countDisksIn_21 2 rfl rfl ?_
    refine j_iload B dX2_countDisksIn_22 0 rfl ?_
    refine j_aald B (fun H h => pgR.bd h) 0 rfl (vp_in_nI hlt (by omega)) dX2_countDisksIn_24 (fun h2 => ?_) (fun y3 h2 => ?_)
    · have nh2 := pgBd_nI hlt h2
      refine j_astoreN B (L' := [(6, .null), (5, .int (nI i)), (4, .int 60), (3, .ref (ad 1)), (2, .int x), (1, .ref (ad (3 + c))), (0, .ref (ad 0))]) dX2_countDisksIn_25 (by decide) rfl ?_
      refine j_aloadN B dX2_countDisksIn_27 0 rfl ?_
      refine j_ifnullN B 47 dX2_countDisksIn_29 (by decide) ?_
      refine j_iinc B (v := nI (i + 1)) (L' := [(5, .int (nI (i + 1))), (6, .null), (4, .int 60), (3, .ref (ad 1)), (2, .int x), (1, .ref (ad (3 + c))), (0, .ref (ad 0))]) dX2_countDisksIn_47 1 rfl (nI_1 i) (by decide) rfl ?_
      refine j_goto B 14 dX2_countDisksIn_50 (by decide) ?_
      refine j_locals [0, 2, 3, 4, 5, 6] rfl ?_
      exact ih hlt _ (pgN_f2 hv (by simp [*]))
    · obtain ⟨jh2, rfl⟩ := pgBd_sI hlt h2
      refine j_astore B (L' := [(6, .ref (ad (13 + i))), (5, .int (nI i)), (4, .int 60), (3, .ref (ad 1)), (2, .int x), (1, .ref (ad (3 + c))), (0, .ref (ad 0))]) dX2_countDisksIn_25 (by decide) rfl ?_
      refine j_aload B dX2_countDisksIn_27 0 rfl ?_
      refine j_ifnull B dX2_countDisksIn_29 ?_
      refine j_aload B dX2_countDisksIn_32 0 rfl ?_
      refine j_cVi B (S := Unit) 0 [] (WdC' := fun _ => pgR D cD cC A σ n ad) (fun _ => pgR D cD cC A σ n ad) (c_X1_crateNumber l D cD cC cI cZ cL A σ n ad i jh2 hcr) rfl (fun H h => pgR.dk h jh2) q_258 q_259 q_260 q_9 q_261 hdX1_crateNumber rfl ⟨Nat.le_of_ble_eq_true rfl, Nat.le_of_ble_eq_true rfl⟩ (Nat.le_of_ble_eq_true rfl) dX2_countDisksIn_34 rfl ⟨Nat.le_of_ble_eq_true rfl, Nat.le_of_ble_eq_true rfl⟩ (fun _ h => h) (fun _ _ _ _ h => h) (fun _ h => h) (fun _ _ _ _ h _ _ => h) (fun r4 _ hp5 => ?_)
      obtain rfl : r4 = σ 3 i := hp5
      refine j_aload_n B dX2_countDisksIn_37 5 rfl rfl ?_
      refine j_get B (v := .int (nI c)) pgX0 rfl (fun H h => pgR.cr h hc) 0 (by decide) q_33 rfl rfl dX2_countDisksIn_38 ?_
      refine j_icmp_ne B 47 dX2_countDisksIn_41 (by decide) (fun h6 => ?_) (fun h6 => ?_)
      · refine j_iinc B (v := nI (i + 1)) (L' := [(5, .int (nI (i + 1))), (6, .ref (ad (13 + i))), (4, .int 60), (3, .ref (ad 1)), (2, .int x), (1, .ref (ad (3 + c))), (0, .ref (ad 0))]) dX2_countDisksIn_47 1 rfl (nI_1 i) (by decide) rfl ?_
        refine j_goto B 14 dX2_countDisksIn_50 (by decide) ?_
        refine j_locals [0, 2, 3, 4, 5, 6] rfl ?_
        exact ih hlt _ (pgN_f2 hv (by simp [*]))
      · refine j_iinc B (v := (x + 1)) (L' := [(2, .int (x + 1)), (6, .ref (ad (13 + i))), (5, .int (nI i)), (4, .int 60), (3, .ref (ad 1)), (1, .ref (ad (3 + c))), (0, .ref (ad 0))]) dX2_countDisksIn_44 4 rfl rfl (by decide) rfl ?_
        refine j_iinc B (v := nI (i + 1)) (L' := [(5, .int (nI (i + 1))), (2, .int (x + 1)), (6, .ref (ad (13 + i))), (4, .int 60), (3, .ref (ad 1)), (1, .ref (ad (3 + c))), (0, .ref (ad 0))]) dX2_countDisksIn_47 2 rfl (nI_1 i) (by decide) rfl ?_
        refine j_goto B 14 dX2_countDisksIn_50 (by decide) ?_
        refine j_locals [0, 3, 4, 1, 5, 6] rfl ?_
        exact ih hlt _ (pgN_t2 hv (by simp [*]))
theorem pgHoN_3 {σ : pgSt} {c to : Int32} {k j : Nat} : pgHoN σ c to k 3 j = σ 3 j := by simp [pgHoN]
theorem pgHoN_cr {n : Nat} {σ : pgSt} {c to : Int32} {i : Nat} (h : pgCr n σ) : pgCr n (pgHoN σ c to i) := fun j hj => by
  rw [pgHoN_3]
  exact h j hj
theorem pgHoN_10 {σ : pgSt} {c to : Int32} {k j : Nat} : pgHoN σ c to k 10 j = σ 10 j := by simp [pgHoN]
theorem pgHoN_0 {σ : pgSt} {c to : Int32} : σ = pgHoN σ c to 0 := by
  funext t j
  simp only [pgHoN, pgCnt, pgN]
  by_cases h : t = 13 ∧ j = 3
  · obtain ⟨rfl, rfl⟩ := h
    simp
    exact (Int32.add_zero _).symm
  · simp [h]
theorem pgHoN_f {σ : pgSt} {c to : Int32} {i : Nat} (h : ¬ σ 3 i = c) : pgHoN σ c to i = pgHoN σ c to (i + 1) := by
  funext t j
  have e : pgCnt σ (i + 1) c = pgCnt σ i c := by
    show nI _ = nI _
    rw [pgN_f (by simp [h])]
  simp only [pgHoN, e]
  by_cases hj : j = i
  · subst hj
    simp [h]
  · have q : (j < i + 1) = (j < i) := by apply propext; omega
    simp only [q]
theorem pgHoN_t {σ : pgSt} {c to : Int32} {i : Nat} (h : σ 3 i = c) : pgHo (pgHoN σ c to i) i to = pgHoN σ c to (i + 1) := by
  have e : pgCnt σ (i + 1) c = pgCnt σ i c + 1 := by
    show nI _ = nI _ + 1
    rw [pgN_t (by simp [h]), nI_1]
  funext t j
  simp only [pgHo, pgU, pgHoN, e]
  by_cases h13 : t = 13 ∧ j = 3
  · obtain ⟨rfl, rfl⟩ := h13
    simp
    rw [Int32.add_assoc]
  · by_cases hj : j = i
    · subst hj
      by_cases h2 : t = 2
      · subst h2; simp [h]
      · by_cases h14 : t = 14
        · subst h14; simp [h]
        · simp [h13, h2, h14]
    · have q : (j < i + 1) = (j < i) := by apply propext; omega
      simp [h13, hj, q]
theorem pgHoM_n {σ : pgSt} {c to : Int32} {i n : Nat} (h : ¬ i < n) : pgHoN σ c to (min i n) = pgHoN σ c to (min (i + 1) n) := by
  rw [Nat.min_eq_right (by omega), Nat.min_eq_right (by omega)]
theorem pgHoM_f {σ : pgSt} {c to : Int32} {i n : Nat} (hi : i < n) (h : ¬ σ 3 i = c) : pgHoN σ c to (min i n) = pgHoN σ c to (min (i + 1) n) := by
  rw [Nat.min_eq_left (by omega), Nat.min_eq_left (by omega)]
  exact pgHoN_f h
theorem pgHoM_t {σ : pgSt} {c to to2 : Int32} {i n : Nat} (hi : i < n) (h : σ 3 i = c) (e : to2 = to) : pgHo (pgHoN σ c to (min i n)) i to2 = pgHoN σ c to (min (i + 1) n) := by
  subst e
  rw [Nat.min_eq_left (by omega), Nat.min_eq_left (by omega)]
  exact pgHoN_t h
set_option maxHeartbeats 4000000 in
set_option maxRecDepth 100000 in
/-- handOverDisksIn -/
theorem c_X2_handOverDisksIn (l : Launch) (D : va_G) (cD cC cI cZ cL : ClassId) (A : Nat → Prop) (σ : pgSt) (n : Nat) (ad : Nat → Nat) (c : Nat) (hc : c < 10) (hn9 : n ≤ 60) (hcr : pgCr n σ) : Met l yX2_handOverDisksIn (.code yX2_handOverDisksIn cX2_handOverDisksIn 6 none :: pgWd) ({ frames := 1, cells := 0, slots := 0, locals := 22 } : Room) (pgPc D (pgTys cD cC cI cZ cL) A (pgR D cD cC A σ n ad) [.ref (ad 0), .ref (ad (3 + c))]) (va_Qv (fun (_ : Unit) => True) (fun _ t9 => pgR D cD cC A (pgHoN σ (nI c) (σ 10 c) n) n ad t9.heap) A) 0 0 A := by
  refine pg_enter (own := RX2) (by decide) rfl (Nat.le_of_ble_eq_true rfl) (fun p e s m below meth cc9 B hr hnm => ?_)
  refine j_fact (fun H h => pgR.inA h) (fun hIn => ?_)
  refine j_aload_n B dX2_handOverDisksIn_0 0 rfl rfl ?_
  refine j_get B (v := .ref (ad 1)) pgX2 rfl (fun H h => pgR.x h) 0 (by decide) q_47 rfl rfl dX2_handOverDisksIn_1 ?_
  refine j_astore_n B (L' := [(2, .ref (ad 1)), (0, .ref (ad 0)), (1, .ref (ad (3 + c)))]) dX2_handOverDisksIn_4 rfl (by decide) rfl ?_
  refine j_aload_n B dX2_handOverDisksIn_5 0 rfl rfl ?_
  refine j_alen B (fun H h => pgR.bd h) 0 rfl (v := 60) rfl dX2_handOverDisksIn_6 ?_
  refine j_istore_n B (L' := [(3, .int 60), (2, .ref (ad 1)), (0, .ref (ad 0)), (1, .ref (ad (3 + c)))]) dX2_handOverDisksIn_7 rfl (by decide) rfl ?_
  refine j_iconst B (v := 0) dX2_handOverDisksIn_8 (by decide) ?_
  refine j_istore B (L' := [(4, .int 0), (3, .int 60), (2, .ref (ad 1)), (0, .ref (ad 0)), (1, .ref (ad (3 + c)))]) dX2_handOverDisksIn_9 (by decide) rfl ?_
  refine j_locals [0, 1, 2, 4, 3] rfl ?_
  refine j_world (Wd' := pgR D cD cC A (pgHoN σ (nI c) (σ 10 c) (min 0 n)) n ad) (fun H h => pgR.eq h (by rw [Nat.zero_min]; exact pgHoN_0)) ?_
  refine j_loop (N := 60) (X := Unit) (fun i x => True) (fun i x => pgR D cD cC A (pgHoN σ (nI c) (σ 10 c) (min i n)) n ad) (fun i x => [(4, .int (nI i)), (3, .int 60), (2, .ref (ad 1)), (1, .ref (ad (3 + c))), (0, .ref (ad 0))]) (fun i x hi hv ih => ?_) 0 () (by omega) trivial
  refine j_iload B dX2_handOverDisksIn_11 0 rfl ?_
  refine j_iload_n B dX2_handOverDisksIn_13 1 rfl rfl ?_
  refine j_icmp_ge B 56 dX2_handOverDisksIn_14 (by decide) (fun h1 => ?_) (fun h1 => ?_)
  · obtain rfl := pg_eqN hi (by omega) h1
    exact j_vret B hr dX2_handOverDisksIn_56 (Nat.le_of_ble_eq_true rfl) (Nat.le_of_ble_eq_true rfl) () trivial (fun H h => pgR.eq h (congrArg _ (Nat.min_eq_right hn9)))
  · have hlt := pg_ltN (N := 60) (by omega) hi h1
    refine j_aload_n B dX2_handOverDisksIn_17 2 rfl rfl ?_
    refine j_iload B dX2_handOverDisksIn_18 0 rfl ?_
    refine j_aald B (fun H h => pgR.bd h) 0 rfl (vp_in_nI hlt (by omega)) dX2_handOverDisksIn_20 (fun h2 => ?_) (fun y3 h2 => ?_)
    · have nh2 := pgBd_nI hlt h2
      refine j_astoreN B (L' := [(5, .null), (4, .int (nI i)), (3, .int 60), (2, .ref (ad 1)), (1, .ref (ad (3 + c))), (0, .ref (ad 0))]) dX2_handOverDisksIn_21 (by decide) rfl ?_
      refine j_aloadN B dX2_handOverDisksIn_23 0 rfl ?_
      refine j_ifnullN B 50 dX2_handOverDisksIn_25 (by decide) ?_
      refine j_iinc B (v := nI (i + 1)) (L' := [(4, .int (nI (i + 1))), (5, .null), (3, .int 60), (2, .ref (ad 1)), (1, .ref (ad (3 + c))), (0, .ref (ad 0))]) dX2_handOverDisksIn_50 1 rfl (nI_1 i) (by decide) rfl ?_
      refine j_goto B 11 dX2_handOverDisksIn_53 (by decide) ?_
      refine j_locals [0, 2, 3, 4, 5] rfl ?_
      exact j_world (fun H h => pgR.eq h (pgHoM_n (by assumption))) (ih hlt () trivial)
    · obtain ⟨jh2, rfl⟩ := pgBd_sI hlt h2
      refine j_astore B (L' := [(5, .ref (ad (13 + i))), (4, .int (nI i)), (3, .int 60), (2, .ref (ad 1)), (1, .ref (ad (3 + c))), (0, .ref (ad 0))]) dX2_handOverDisksIn_21 (by decide) rfl ?_
      refine j_aload B dX2_handOverDisksIn_23 0 rfl ?_
      refine j_ifnull B dX2_handOverDisksIn_25 ?_
      refine j_aload B dX2_handOverDisksIn_28 0 rfl ?_
      refine j_cVi B (S := Unit) 0 [] (WdC' := fun _ => pgR D cD cC A (pgHoN σ (nI c) (σ 10 c) (min i n)) n ad) (fun _ => pgR D cD cC A (pgHoN σ (nI c) (σ 10 c) (min i n)) n ad) (c_X1_crateNumber l D cD cC cI cZ cL A (pgHoN σ (nI c) (σ 10 c) (min i n)) n ad i jh2 (pgHoN_cr hcr)) rfl (fun H h => pgR.dk h jh2) q_258 q_259 q_260 q_9 q_261 hdX1_crateNumber rfl ⟨Nat.le_of_ble_eq_true rfl, Nat.le_of_ble_eq_true rfl⟩ (Nat.le_of_ble_eq_true rfl) dX2_handOverDisksIn_30 rfl ⟨Nat.le_of_ble_eq_true rfl, Nat.le_of_ble_eq_true rfl⟩ (fun _ h => h) (fun _ _ _ _ h => h) (fun _ h => h) (fun _ _ _ _ h _ _ => h) (fun r4 _ hp5 => ?_)
      obtain rfl : r4 = (pgHoN σ (nI c) (σ 10 c) (min i n)) 3 i := hp5
      refine j_aload_n B dX2_handOverDisksIn_33 4 rfl rfl ?_
      refine j_get B (v := .int (nI c)) pgX0 rfl (fun H h => pgR.cr h hc) 0 (by decide) q_33 rfl rfl dX2_handOverDisksIn_34 ?_
      refine j_icmp_ne B 50 dX2_handOverDisksIn_37 (by decide) (fun h6 => ?_) (fun h6 => ?_)
      · rw [pgHoN_3] at h6
        refine j_iinc B (v := nI (i + 1)) (L' := [(4, .int (nI (i + 1))), (5, .ref (ad (13 + i))), (3, .int 60), (2, .ref (ad 1)), (1, .ref (ad (3 + c))), (0, .ref (ad 0))]) dX2_handOverDisksIn_50 1 rfl (nI_1 i) (by decide) rfl ?_
        refine j_goto B 11 dX2_handOverDisksIn_53 (by decide) ?_
        refine j_locals [0, 2, 3, 4, 5] rfl ?_
        exact j_world (fun H h => pgR.eq h (pgHoM_f (by assumption) (by assumption))) (ih hlt () trivial)
      · rw [pgHoN_3] at h6
        refine j_aload_n B dX2_handOverDisksIn_40 5 rfl rfl ?_
        refine j_aload B dX2_handOverDisksIn_41 0 rfl ?_
        refine j_aload_n B dX2_handOverDisksIn_43 4 rfl rfl ?_
        refine j_get B (v := .int ((pgHoN σ (nI c) (σ 10 c) (min i n)) 10 c)) pgX0 rfl (fun H h => pgR.cr h hc) 1 (by decide) q_34 rfl rfl dX2_handOverDisksIn_44 ?_
        refine j_cVv B (S := Unit) 2 [.ref (ad (13 + i)), .int ((pgHoN σ (nI c) (σ 10 c) (min i n)) 10 c)] (WdC' := fun _ => pgR D cD cC A (pgU (pgU (pgU (pgHoN σ (nI c) (σ 10 c) (min i n)) 2 i ((pgHoN σ (nI c) (σ 10 c) (min i n)) 10 c)) 14 i ((pgHoN σ (nI c) (σ 10 c) (min i n)) 10 c)) 13 3 ((pgHoN σ (nI c) (σ 10 c) (min i n)) 13 3 + 1)) n ad) (fun _ => pgR D cD cC A (pgU (pgU (pgU (pgHoN σ (nI c) (σ 10 c) (min i n)) 2 i ((pgHoN σ (nI c) (σ 10 c) (min i n)) 10 c)) 14 i ((pgHoN σ (nI c) (σ 10 c) (min i n)) 10 c)) 13 3 ((pgHoN σ (nI c) (σ 10 c) (min i n)) 13 3 + 1)) n ad) (c_X2_handOver l D cD cC cI cZ cL A (pgHoN σ (nI c) (σ 10 c) (min i n)) n ad i jh2 ((pgHoN σ (nI c) (σ 10 c) (min i n)) 10 c)) rfl (fun H h => pgR.x h) q_237 q_239 q_p1 q_1 q_240 hdX2_handOver rfl ⟨Nat.le_of_ble_eq_true rfl, Nat.le_of_ble_eq_true rfl⟩ (Nat.le_of_ble_eq_true rfl) dX2_handOverDisksIn_47 rfl ⟨Nat.le_of_ble_eq_true rfl, Nat.le_of_ble_eq_true rfl⟩ (fun _ h => h) (fun _ _ _ _ h => h) (fun _ h => h) (fun _ _ _ _ h _ _ => h) (fun _ _ => ?_)
        refine j_iinc B (v := nI (i + 1)) (L' := [(4, .int (nI (i + 1))), (5, .ref (ad (13 + i))), (3, .int 60), (2, .ref (ad 1)), (1, .ref (ad (3 + c))), (0, .ref (ad 0))]) dX2_handOverDisksIn_50 1 rfl (nI_1 i) (by decide) rfl ?_
        refine j_goto B 11 dX2_handOverDisksIn_53 (by decide) ?_
        refine j_locals [0, 2, 3, 4, 5] rfl ?_
        exact j_world (fun H h => pgR.eq h (pgHoM_t (by assumption) (by assumption) pgHoN_10)) (ih hlt () trivial)
theorem pgI_n {n : Nat} {σ : pgSt} (hI : pgI n σ) : ix (σ 13 0) = n := by
  rw [hI.2.1]
  exact nI_clamp (by have := hI.1; omega)
set_option maxHeartbeats 4000000 in
set_option maxRecDepth 100000 in
/-- has -/
theorem c_X2_has (l : Launch) (hl : l.stackTraces = false) (D : va_G) (cD cC cI cZ cL : ClassId) (A : Nat → Prop) (σ : pgSt) (n : Nat) (ad : Nat → Nat) (hI : pgI n σ) (k0 : Int32) : vx_Met l yX2_has (.code yX2_has cX2_has 7 (some .int) :: pgWd) ({ frames := 7, cells := 1, slots := 6, locals := 102 } : Room) (pgPc D (pgTys cD cC cI cZ cL) A (pgR D cD cC A σ n ad) [.ref (ad 0), .int k0]) (va_Qi (fun (r : Int32) (_ : Unit) => (sp_has σ k0).1 = 0 ∧ r = (sp_has σ k0).2.1) (fun _ t9 => pgR D cD cC A σ n ad t9.heap) A) (pgX A (fun k => (sp_has σ k0).1 = k ∧ k ≠ 0) (pgR D cD cC A σ n ad)) 1 6 A := by
  refine pg_enterX (own := RX2) (by decide) rfl (Nat.le_of_ble_eq_true rfl) (fun p e s m below meth cc9 B hr hnm ht => ?_)
  refine j_iload_n B dX2_has_0 1 rfl rfl ?_
  refine j_xSv B 1 [.int k0] ht (S := Unit) (WdC' := fun _ => pgR D cD cC A σ n ad)  (c_X2_requireKeeper l hl D cD cC cI cZ cL A σ n ad k0) q_83 q_84 q_1 q_85 hdX2_requireKeeper rfl ⟨Nat.le_of_ble_eq_true rfl, Nat.le_of_ble_eq_true rfl⟩ (Nat.le_of_ble_eq_true rfl) dX2_has_1 rfl ⟨Nat.le_of_ble_eq_true rfl, Nat.le_of_ble_eq_true rfl⟩ (Nat.le_of_ble_eq_true rfl) (Nat.le_of_ble_eq_true rfl) (fun k h => by obtain ⟨rfl, h9⟩ := h; simp [sp_has, h9]) (fun H h => h) (fun u1 hp2 => ?_)
  refine j_iconst B (v := 0) dX2_has_4 (by decide) ?_
  refine j_istore_n B (L' := [(2, .int 0), (0, .ref (ad 0)), (1, .int k0)]) dX2_has_5 rfl (by decide) rfl ?_
  refine j_aload_n B dX2_has_6 1 rfl rfl ?_
  refine j_get B (v := .ref (ad 1)) pgX2 rfl (fun H h => pgR.x h) 0 (by decide) q_47 rfl rfl dX2_has_7 ?_
  refine j_astore_n B (L' := [(3, .ref (ad 1)), (2, .int 0), (0, .ref (ad 0)), (1, .int k0)]) dX2_has_10 rfl (by decide) rfl ?_
  refine j_aload_n B dX2_has_11 0 rfl rfl ?_
  refine j_alen B (fun H h => pgR.bd h) 0 rfl (v := 60) rfl dX2_has_12 ?_
  refine j_istore B (L' := [(4, .int 60), (3, .ref (ad 1)), (2, .int 0), (0, .ref (ad 0)), (1, .int k0)]) dX2_has_13 (by decide) rfl ?_
  refine j_iconst B (v := 0) dX2_has_15 (by decide) ?_
  refine j_istore B (L' := [(5, .int 0), (4, .int 60), (3, .ref (ad 1)), (2, .int 0), (0, .ref (ad 0)), (1, .int k0)]) dX2_has_16 (by decide) rfl ?_
  refine j_locals [0, 1, 2, 3, 5, 4] rfl ?_
  refine j_loop (N := 60) (X := Int32) (fun i x => x = nI (pgN (fun j => decide (j < n ∧ σ 2 j = k0)) i)) (fun i x => pgR D cD cC A σ n ad) (fun i x => [(5, .int (nI i)), (4, .int 60), (3, .ref (ad 1)), (2, .int x), (1, .int k0), (0, .ref (ad 0))]) (fun i x hi hv ih => ?_) 0 0 (by omega) rfl
  refine j_iload B dX2_has_18 0 rfl ?_
  refine j_iload B dX2_has_20 1 rfl ?_
  refine j_icmp_ge B 54 dX2_has_22 (by decide) (fun h3 => ?_) (fun h3 => ?_)
  · obtain rfl := pg_eqN hi (by omega) h3
    refine j_iload_n B dX2_has_54 3 rfl rfl ?_
    have hv2 := hv.trans (congrArg nI (pgN_60 _ hI.1))
    have hv3 : ix (σ 13 0) = n := pgI_n hI
    exact j_x (j_iret B hr rfl dX2_has_55 (Nat.le_of_ble_eq_true rfl) (Nat.le_of_ble_eq_true rfl) () (by simp only [sp_has, hv3]; grind) (fun H h => h))
  · have hlt := pg_ltN (N := 60) (by omega) hi h3
    refine j_aload_n B dX2_has_25 2 rfl rfl ?_
    refine j_iload B dX2_has_26 0 rfl ?_
    refine j_aald B (fun H h => pgR.bd h) 0 rfl (vp_in_nI hlt (by omega)) dX2_has_28 (fun h4 => ?_) (fun y5 h4 => ?_)
    · have nh4 := pgBd_nI hlt h4
      refine j_astoreN B (L' := [(6, .null), (5, .int (nI i)), (4, .int 60), (3, .ref (ad 1)), (2, .int x), (1, .int k0), (0, .ref (ad 0))]) dX2_has_29 (by decide) rfl ?_
      refine j_aloadN B dX2_has_31 0 rfl ?_
      refine j_ifnullN B 48 dX2_has_33 (by decide) ?_
      refine j_iinc B (v := nI (i + 1)) (L' := [(5, .int (nI (i + 1))), (6, .null), (4, .int 60), (3, .ref (ad 1)), (2, .int x), (1, .int k0), (0, .ref (ad 0))]) dX2_has_48 1 rfl (nI_1 i) (by decide) rfl ?_
      refine j_goto B 18 dX2_has_51 (by decide) ?_
      refine j_locals [0, 2, 3, 4, 5, 6] rfl ?_
      exact ih hlt _ (pgN_f2 hv (by simp [*]))
    · obtain ⟨jh4, rfl⟩ := pgBd_sI hlt h4
      refine j_astore B (L' := [(6, .ref (ad (13 + i))), (5, .int (nI i)), (4, .int 60), (3, .ref (ad 1)), (2, .int x), (1, .int k0), (0, .ref (ad 0))]) dX2_has_29 (by decide) rfl ?_
      refine j_aload B dX2_has_31 0 rfl ?_
      refine j_ifnull B dX2_has_33 ?_
      refine j_aload B dX2_has_36 0 rfl ?_
      refine j_get B (v := .int (σ 2 i)) pgX1 rfl (fun H h => pgR.dk h jh4) 2 (by decide) q_198 rfl rfl dX2_has_38 ?_
      refine j_iload_n B dX2_has_41 5 rfl rfl ?_
      refine j_icmp_ne B 48 dX2_has_42 (by decide) (fun h6 => ?_) (fun h6 => ?_)
      · refine j_iinc B (v := nI (i + 1)) (L' := [(5, .int (nI (i + 1))), (6, .ref (ad (13 + i))), (4, .int 60), (3, .ref (ad 1)), (2, .int x), (1, .int k0), (0, .ref (ad 0))]) dX2_has_48 1 rfl (nI_1 i) (by decide) rfl ?_
        refine j_goto B 18 dX2_has_51 (by decide) ?_
        refine j_locals [0, 2, 3, 4, 5, 6] rfl ?_
        exact ih hlt _ (pgN_f2 hv (by simp [*]))
      · refine j_iinc B (v := (x + 1)) (L' := [(2, .int (x + 1)), (6, .ref (ad (13 + i))), (5, .int (nI i)), (4, .int 60), (3, .ref (ad 1)), (1, .int k0), (0, .ref (ad 0))]) dX2_has_45 4 rfl rfl (by decide) rfl ?_
        refine j_iinc B (v := nI (i + 1)) (L' := [(5, .int (nI (i + 1))), (2, .int (x + 1)), (6, .ref (ad (13 + i))), (4, .int 60), (3, .ref (ad 1)), (1, .int k0), (0, .ref (ad 0))]) dX2_has_48 2 rfl (nI_1 i) (by decide) rfl ?_
        refine j_goto B 18 dX2_has_51 (by decide) ?_
        refine j_locals [0, 3, 4, 1, 5, 6] rfl ?_
        exact ih hlt _ (pgN_t2 hv (by simp [*]))
set_option maxHeartbeats 4000000 in
set_option maxRecDepth 100000 in
/-- missing -/
theorem c_X2_missing (l : Launch) (D : va_G) (cD cC cI cZ cL : ClassId) (A : Nat → Prop) (σ : pgSt) (n : Nat) (ad : Nat → Nat) (hI : pgI n σ) : Met l yX2_missing (.code yX2_missing cX2_missing 6 (some .int) :: pgWd) ({ frames := 0, cells := 0, slots := 0, locals := 0 } : Room) (pgPc D (pgTys cD cC cI cZ cL) A (pgR D cD cC A σ n ad) [.ref (ad 0)]) (va_Qi (fun (r : Int32) (_ : Unit) => r = pgMis σ) (fun _ t9 => pgR D cD cC A σ n ad t9.heap) A) 0 0 A := by
  refine pg_enter (own := RX2) (by decide) rfl (Nat.le_of_ble_eq_true rfl) (fun p e s m below meth cc9 B hr hnm => ?_)
  refine j_iconst B (v := 0) dX2_missing_0 (by decide) ?_
  refine j_istore_n B (L' := [(1, .int 0), (0, .ref (ad 0))]) dX2_missing_1 rfl (by decide) rfl ?_
  refine j_aload_n B dX2_missing_2 1 rfl rfl ?_
  refine j_get B (v := .ref (ad 1)) pgX2 rfl (fun H h => pgR.x h) 0 (by decide) q_47 rfl rfl dX2_missing_3 ?_
  refine j_astore_n B (L' := [(2, .ref (ad 1)), (1, .int 0), (0, .ref (ad 0))]) dX2_missing_6 rfl (by decide) rfl ?_
  refine j_aload_n B dX2_missing_7 0 rfl rfl ?_
  refine j_alen B (fun H h => pgR.bd h) 0 rfl (v := 60) rfl dX2_missing_8 ?_
  refine j_istore_n B (L' := [(3, .int 60), (2, .ref (ad 1)), (1, .int 0), (0, .ref (ad 0))]) dX2_missing_9 rfl (by decide) rfl ?_
  refine j_iconst B (v := 0) dX2_missing_10 (by decide) ?_
  refine j_istore B (L' := [(4, .int 0), (3, .int 60), (2, .ref (ad 1)), (1, .int 0), (0, .ref (ad 0))]) dX2_missing_11 (by decide) rfl ?_
  refine j_locals [0, 1, 2, 3, 4] rfl ?_
  refine j_loop (N := 60) (X := Int32) (fun i x => x = nI (pgN (fun j => decide (j < n ∧ σ 5 j ≠ 0)) i)) (fun i x => pgR D cD cC A σ n ad) (fun i x => [(4, .int (nI i)), (3, .int 60), (2, .ref (ad 1)), (1, .int x), (0, .ref (ad 0))]) (fun i x hi hv ih => ?_) 0 0 (by omega) rfl
  refine j_iload B dX2_missing_13 0 rfl ?_
  refine j_iload_n B dX2_missing_15 1 rfl rfl ?_
  refine j_icmp_ge B 47 dX2_missing_16 (by decide) (fun h1 => ?_) (fun h1 => ?_)
  · obtain rfl := pg_eqN hi (by omega) h1
    refine j_iload_n B dX2_missing_47 3 rfl rfl ?_
    have hv3 : ix (σ 13 0) = n := pgI_n hI
    exact j_iret B hr rfl dX2_missing_48 (Nat.le_of_ble_eq_true rfl) (Nat.le_of_ble_eq_true rfl) () (by rw [pgMis, hv3]; exact hv.trans (congrArg nI (pgN_60 _ hI.1))) (fun H h => h)
  · have hlt := pg_ltN (N := 60) (by omega) hi h1
    refine j_aload_n B dX2_missing_19 2 rfl rfl ?_
    refine j_iload B dX2_missing_20 0 rfl ?_
    refine j_aald B (fun H h => pgR.bd h) 0 rfl (vp_in_nI hlt (by omega)) dX2_missing_22 (fun h2 => ?_) (fun y3 h2 => ?_)
    · have nh2 := pgBd_nI hlt h2
      refine j_astoreN B (L' := [(5, .null), (4, .int (nI i)), (3, .int 60), (2, .ref (ad 1)), (1, .int x), (0, .ref (ad 0))]) dX2_missing_23 (by decide) rfl ?_
      refine j_aloadN B dX2_missing_25 0 rfl ?_
      refine j_ifnullN B 41 dX2_missing_27 (by decide) ?_
      refine j_iinc B (v := nI (i + 1)) (L' := [(4, .int (nI (i + 1))), (5, .null), (3, .int 60), (2, .ref (ad 1)), (1, .int x), (0, .ref (ad 0))]) dX2_missing_41 1 rfl (nI_1 i) (by decide) rfl ?_
      refine j_goto B 13 dX2_missing_44 (by decide) ?_
      refine j_locals [0, 2, 3, 4, 5] rfl ?_
      exact ih hlt _ (pgN_f2 hv (by simp [*]))
    · obtain ⟨jh2, rfl⟩ := pgBd_sI hlt h2
      refine j_astore B (L' := [(5, .ref (ad (13 + i))), (4, .int (nI i)), (3, .int 60), (2, .ref (ad 1)), (1, .int x), (0, .ref (ad 0))]) dX2_missing_23 (by decide) rfl ?_
      refine j_aload B dX2_missing_25 0 rfl ?_
      refine j_ifnull B dX2_missing_27 ?_
      refine j_aload B dX2_missing_30 0 rfl ?_
      refine j_get B (v := .int (σ 5 i)) pgX1 rfl (fun H h => pgR.dk h jh2) 9 (by decide) q_210 rfl rfl dX2_missing_32 ?_
      refine j_if_eq B 41 dX2_missing_35 (by decide) (fun h4 => ?_) (fun h4 => ?_)
      · refine j_iinc B (v := nI (i + 1)) (L' := [(4, .int (nI (i + 1))), (5, .ref (ad (13 + i))), (3, .int 60), (2, .ref (ad 1)), (1, .int x), (0, .ref (ad 0))]) dX2_missing_41 1 rfl (nI_1 i) (by decide) rfl ?_
        refine j_goto B 13 dX2_missing_44 (by decide) ?_
        refine j_locals [0, 2, 3, 4, 5] rfl ?_
        exact ih hlt _ (pgN_f2 hv (by simp [*]))
      · refine j_iinc B (v := (x + 1)) (L' := [(1, .int (x + 1)), (5, .ref (ad (13 + i))), (4, .int (nI i)), (3, .int 60), (2, .ref (ad 1)), (0, .ref (ad 0))]) dX2_missing_38 4 rfl rfl (by decide) rfl ?_
        refine j_iinc B (v := nI (i + 1)) (L' := [(4, .int (nI (i + 1))), (1, .int (x + 1)), (5, .ref (ad (13 + i))), (3, .int 60), (2, .ref (ad 1)), (0, .ref (ad 0))]) dX2_missing_41 2 rfl (nI_1 i) (by decide) rfl ?_
        refine j_goto B 13 dX2_missing_44 (by decide) ?_
        refine j_locals [0, 3, 4, 1, 5] rfl ?_
        exact ih hlt _ (pgN_t2 hv (by simp [*]))
end
section
theorem pgCr_U {n j : Nat} {σ : pgSt} {v : Int32} (h : pgCr n σ) (hv : v = -1 ∨ ∃ c, c < 10 ∧ v = nI c) : pgCr n (pgU σ 3 j v) := by
  intro i hi
  by_cases e : i = j
  · subst e
    rw [pgU_self]
    exact hv
  · rw [pgU_nj e]
    exact h i hi
theorem pgU_same {σ : pgSt} {t i : Nat} {v : Int32} (h : σ t i = v) : pgU σ t i v = σ := by
  funext a j
  unfold pgU
  split
  · next q => rw [q.1, q.2, h]
  · rfl
theorem pgCr_ne {n t j : Nat} {σ : pgSt} {v : Int32} (ht : 3 ≠ t) (h : pgCr n σ) : pgCr n (pgU σ t j v) := by
  intro i hi
  rw [pgU_ne ht]
  exact h i hi
set_option maxHeartbeats 4000000 in
set_option maxRecDepth 100000 in
/-- offer -/
theorem c_X2_offer (l : Launch) (hl : l.stackTraces = false) (D : va_G) (cD cC cI cZ cL : ClassId) (A : Nat → Prop) (σ : pgSt) (n : Nat) (ad : Nat → Nat) (hI : pgI n σ) (d : Int32) (to : Int32) : vx_Met l yX2_offer (.code yX2_offer cX2_offer 4 (some .int) :: pgWd) ({ frames := 7, cells := 3, slots := 18, locals := 104 } : Room) (pgPc D (pgTys cD cC cI cZ cL) A (pgR D cD cC A σ n ad) [.ref (ad 0), .int d, .int to]) (va_Qi (fun (r : Int32) (_ : Unit) => (sp_offer σ d to).1 = 0 ∧ r = (sp_offer σ d to).2.1) (fun _ t9 => pgR D cD cC A ((sp_offer σ d to).2.2) n ad t9.heap) A) (pgX A (fun k => (sp_offer σ d to).1 = k ∧ k ≠ 0) (pgR D cD cC A σ n ad)) 3 18 A := by
  refine pg_enterX (own := RX2) (by decide) rfl (Nat.le_of_ble_eq_true rfl) (fun p e s m below meth cc9 B hr hnm ht => ?_)
  refine j_fact (fun H h => pgR.inA h) (fun hIn => ?_)
  refine j_aload_n B dX2_offer_0 0 rfl rfl ?_
  refine j_iload_n B dX2_offer_1 1 rfl rfl ?_
  refine j_xVr B 1 [.int d] ht (WdC' := pgR D cD cC A σ n ad)  (c_X2_findDisk l hl D cD cC cI cZ cL A σ n ad hI d) rfl (fun H h => pgR.x h) q_245 q_247 q_p2 q_1 q_248 hdX2_findDisk rfl ⟨Nat.le_of_ble_eq_true rfl, Nat.le_of_ble_eq_true rfl⟩ (Nat.le_of_ble_eq_true rfl) dX2_offer_2 rfl ⟨Nat.le_of_ble_eq_true rfl, Nat.le_of_ble_eq_true rfl⟩ (Nat.le_of_ble_eq_true rfl) (Nat.le_of_ble_eq_true rfl) (fun k h => by obtain ⟨rfl, h9⟩ := h; simp only [sp_offer]; grind) (fun H h => h) (fun r1 hp2 => ?_)
  obtain ⟨rfl, hD3⟩ := hp2
  have hj4 := (pgIsD.at hI hD3).1
  refine j_astore_n B (L' := [(3, .ref (ad (13 + ix d))), (0, .ref (ad 0)), (1, .int d), (2, .int to)]) dX2_offer_5 rfl (by decide) rfl ?_
  refine j_iload_n B dX2_offer_6 3 rfl rfl ?_
  refine j_xSv B 1 [.int to] ht (S := Unit) (WdC' := fun _ => pgR D cD cC A σ n ad)  (c_X2_requireKeeper l hl D cD cC cI cZ cL A σ n ad to) q_83 q_84 q_1 q_85 hdX2_requireKeeper rfl ⟨Nat.le_of_ble_eq_true rfl, Nat.le_of_ble_eq_true rfl⟩ (Nat.le_of_ble_eq_true rfl) dX2_offer_7 rfl ⟨Nat.le_of_ble_eq_true rfl, Nat.le_of_ble_eq_true rfl⟩ (Nat.le_of_ble_eq_true rfl) (Nat.le_of_ble_eq_true rfl) (fun k h => by obtain ⟨rfl, h9⟩ := h; simp only [sp_offer]; grind) (fun H h => h) (fun u5 hp6 => ?_)
  refine j_iload_n B dX2_offer_10 3 rfl rfl ?_
  refine j_aload_n B dX2_offer_11 0 rfl rfl ?_
  refine j_get B (v := .int (σ 2 (ix d))) pgX1 rfl (fun H h => pgR.dk h hj4) 2 (by decide) q_198 rfl rfl dX2_offer_12 ?_
  refine j_icmp_ne B 28 dX2_offer_15 (by decide) (fun h7 => ?_) (fun h7 => ?_)
  · refine j_aload_n B dX2_offer_28 0 rfl rfl ?_
    refine j_xSv B 1 [.ref (ad (13 + ix d))] ht (S := Unit) (WdC' := fun _ => pgR D cD cC A σ n ad)  (c_X2_requireLoose l hl D cD cC cI cZ cL A σ n ad (ix d) hj4 hI.2.2.1) q_316 q_317 q_1 q_318 hdX2_requireLoose rfl ⟨Nat.le_of_ble_eq_true rfl, Nat.le_of_ble_eq_true rfl⟩ (Nat.le_of_ble_eq_true rfl) dX2_offer_29 rfl ⟨Nat.le_of_ble_eq_true rfl, Nat.le_of_ble_eq_true rfl⟩ (Nat.le_of_ble_eq_true rfl) (Nat.le_of_ble_eq_true rfl) (fun k h => by obtain ⟨rfl, h9⟩ := h; simp only [sp_offer]; grind) (fun H h => h) (fun u8 hp9 => ?_)
    refine j_aload_n B dX2_offer_32 0 rfl rfl ?_
    refine j_iload_n B dX2_offer_33 3 rfl rfl ?_
    refine j_put B (Wd' := pgR D cD cC A (pgU σ 6 (ix d) to) n ad) pgX1 tyX1 tyX1_ok nmX1 rfl (fun H h => pgR.dk h hj4) 5 (by decide) q_203 rfl rfl rfl rfl rfl (Nat.le_of_ble_eq_true rfl) dX2_offer_34 (hIn (13 + ix d) (by omega)) (fun H H1 h hc hz ho => pgR.putD h hj4 (by decide) pgDs5 hc ho) ?_
    refine j_aload_n B dX2_offer_37 0 rfl rfl ?_
    refine j_get B (v := .int (σ 2 (ix d))) pgX1 rfl (fun H h => pgR.dk h hj4) 2 (by decide) q_198 rfl rfl dX2_offer_38 ?_
    have e9 : sp_offer σ d to = (0, σ 2 (ix d), pgU σ 6 (ix d) to) := by
      simp only [sp_offer]; grind
    exact j_x (j_iret B hr rfl dX2_offer_41 (Nat.le_of_ble_eq_true rfl) (Nat.le_of_ble_eq_true rfl) () ⟨by rw [e9], by rw [e9]⟩ (fun H h => pgR.eq h (by rw [e9])))
  · exact j_throw (k := 2) pgTA pgTA2 pgTA3 rfl q_157 q_7 rfl B hl ht (is := 57) (text := "the disk is offered to its keeper") (by decide) dX2_offer_18 dX2_offer_21 dX2_offer_22 dX2_offer_24 dX2_offer_27 (Nat.le_of_ble_eq_true rfl) (Nat.le_of_ble_eq_true rfl) (Nat.le_of_ble_eq_true rfl) (Nat.le_of_ble_eq_true rfl) (Nat.le_of_ble_eq_true rfl) (Nat.le_of_ble_eq_true rfl) (by simp only [sp_offer]; grind) (fun H H1 h hq => pgR.more h hq)
set_option maxHeartbeats 4000000 in
set_option maxRecDepth 100000 in
/-- answer -/
theorem c_X2_answer (l : Launch) (hl : l.stackTraces = false) (D : va_G) (cD cC cI cZ cL : ClassId) (A : Nat → Prop) (σ : pgSt) (n : Nat) (ad : Nat → Nat) (hI : pgI n σ) (d : Int32) (t : Int32) : vx_Met l yX2_answer (.code yX2_answer cX2_answer 5 (some .int) :: pgWd) ({ frames := 7, cells := 2, slots := 12, locals := 104 } : Room) (pgPc D (pgTys cD cC cI cZ cL) A (pgR D cD cC A σ n ad) [.ref (ad 0), .int d, .int t]) (va_Qi (fun (r : Int32) (_ : Unit) => (sp_answer σ d t).1 = 0 ∧ r = (sp_answer σ d t).2.1) (fun _ t9 => pgR D cD cC A ((sp_answer σ d t).2.2) n ad t9.heap) A) (pgX A (fun k => (sp_answer σ d t).1 = k ∧ k ≠ 0) (pgR D cD cC A σ n ad)) 2 12 A := by
  refine pg_enterX (own := RX2) (by decide) rfl (Nat.le_of_ble_eq_true rfl) (fun p e s m below meth cc9 B hr hnm ht => ?_)
  refine j_fact (fun H h => pgR.inA h) (fun hIn => ?_)
  refine j_aload_n B dX2_answer_0 0 rfl rfl ?_
  refine j_iload_n B dX2_answer_1 1 rfl rfl ?_
  refine j_xVr B 1 [.int d] ht (WdC' := pgR D cD cC A σ n ad)  (c_X2_findDisk l hl D cD cC cI cZ cL A σ n ad hI d) rfl (fun H h => pgR.x h) q_245 q_247 q_p2 q_1 q_248 hdX2_findDisk rfl ⟨Nat.le_of_ble_eq_true rfl, Nat.le_of_ble_eq_true rfl⟩ (Nat.le_of_ble_eq_true rfl) dX2_answer_2 rfl ⟨Nat.le_of_ble_eq_true rfl, Nat.le_of_ble_eq_true rfl⟩ (Nat.le_of_ble_eq_true rfl) (Nat.le_of_ble_eq_true rfl) (fun k h => by obtain ⟨rfl, h9⟩ := h; simp only [sp_answer]; grind) (fun H h => h) (fun r1 hp2 => ?_)
  obtain ⟨rfl, hD3⟩ := hp2
  have hj4 := (pgIsD.at hI hD3).1
  refine j_astore_n B (L' := [(3, .ref (ad (13 + ix d))), (0, .ref (ad 0)), (1, .int d), (2, .int t)]) dX2_answer_5 rfl (by decide) rfl ?_
  refine j_aload_n B dX2_answer_6 0 rfl rfl ?_
  refine j_get B (v := .int (σ 5 (ix d))) pgX1 rfl (fun H h => pgR.dk h hj4) 9 (by decide) q_210 rfl rfl dX2_answer_7 ?_
  refine j_if_ne B 21 dX2_answer_10 (by decide) (fun h5 => ?_) (fun h5 => ?_)
  · exact j_throw (k := 3) pgTS pgTS2 pgTS3 rfl q_173 q_8 rfl B hl ht (is := 70) (text := "the disk is missing or not offered") (by decide) dX2_answer_21 dX2_answer_24 dX2_answer_25 dX2_answer_27 dX2_answer_30 (Nat.le_of_ble_eq_true rfl) (Nat.le_of_ble_eq_true rfl) (Nat.le_of_ble_eq_true rfl) (Nat.le_of_ble_eq_true rfl) (Nat.le_of_ble_eq_true rfl) (Nat.le_of_ble_eq_true rfl) (by simp only [sp_answer]; grind) (fun H H1 h hq => pgR.more h hq)
  · refine j_aload_n B dX2_answer_13 0 rfl rfl ?_
    refine j_get B (v := .int (σ 6 (ix d))) pgX1 rfl (fun H h => pgR.dk h hj4) 5 (by decide) q_203 rfl rfl dX2_answer_14 ?_
    refine j_iconst B (v := (-1)) dX2_answer_17 (by decide) ?_
    refine j_icmp_ne B 31 dX2_answer_18 (by decide) (fun h6 => ?_) (fun h6 => ?_)
    · refine j_aload_n B dX2_answer_31 0 rfl rfl ?_
      refine j_get B (v := .int (σ 6 (ix d))) pgX1 rfl (fun H h => pgR.dk h hj4) 5 (by decide) q_203 rfl rfl dX2_answer_32 ?_
      refine j_istore B (L' := [(4, .int (σ 6 (ix d))), (3, .ref (ad (13 + ix d))), (0, .ref (ad 0)), (1, .int d), (2, .int t)]) dX2_answer_35 (by decide) rfl ?_
      refine j_aload_n B dX2_answer_37 1 rfl rfl ?_
      refine j_iconst B (v := (-1)) dX2_answer_38 (by decide) ?_
      refine j_put B (Wd' := pgR D cD cC A (pgU σ 6 (ix d) (-1)) n ad) pgX1 tyX1 tyX1_ok nmX1 rfl (fun H h => pgR.dk h hj4) 5 (by decide) q_203 rfl rfl rfl rfl rfl (Nat.le_of_ble_eq_true rfl) dX2_answer_39 (hIn (13 + ix d) (by omega)) (fun H H1 h hc hz ho => pgR.putD h hj4 (by decide) pgDs5 hc ho) ?_
      refine j_iload_n B dX2_answer_42 4 rfl rfl ?_
      refine j_if_eq B 53 dX2_answer_43 (by decide) (fun h7 => ?_) (fun h7 => ?_)
      · refine j_aload_n B dX2_answer_53 1 rfl rfl ?_
        refine j_get B (v := .int (σ 2 (ix d))) pgX1 rfl (fun H h => pgR.dk h hj4) 2 (by decide) q_198 rfl rfl dX2_answer_54 ?_
        have e9 : sp_answer σ d t = (0, σ 2 (ix d), pgU σ 6 (ix d) (-1)) := by
          simp only [sp_answer, pgHo, pgU_ne (show (13 : Nat) ≠ 6 by decide)]; grind
        exact j_x (j_iret B hr rfl dX2_answer_57 (Nat.le_of_ble_eq_true rfl) (Nat.le_of_ble_eq_true rfl) () ⟨by rw [e9], by rw [e9]⟩ (fun H h => pgR.eq h (by rw [e9])))
      · refine j_aload_n B dX2_answer_46 2 rfl rfl ?_
        refine j_aload_n B dX2_answer_47 1 rfl rfl ?_
        refine j_iload B dX2_answer_48 0 rfl ?_
        refine j_cVv B (S := Unit) 2 [.ref (ad (13 + ix d)), .int (σ 6 (ix d))] (WdC' := fun _ => pgR D cD cC A (pgU (pgU (pgU (pgU σ 6 (ix d) (-1)) 2 (ix d) (σ 6 (ix d))) 14 (ix d) (σ 6 (ix d))) 13 3 (σ 13 3 + 1)) n ad) (fun _ => pgR D cD cC A (pgU (pgU (pgU (pgU σ 6 (ix d) (-1)) 2 (ix d) (σ 6 (ix d))) 14 (ix d) (σ 6 (ix d))) 13 3 (σ 13 3 + 1)) n ad) (c_X2_handOver l D cD cC cI cZ cL A (pgU σ 6 (ix d) (-1)) n ad (ix d) hj4 (σ 6 (ix d))) rfl (fun H h => pgR.x h) q_237 q_239 q_p1 q_1 q_240 hdX2_handOver rfl ⟨Nat.le_of_ble_eq_true rfl, Nat.le_of_ble_eq_true rfl⟩ (Nat.le_of_ble_eq_true rfl) dX2_answer_50 rfl ⟨Nat.le_of_ble_eq_true rfl, Nat.le_of_ble_eq_true rfl⟩ (fun _ h => h) (fun _ _ _ _ h => h) (fun _ h => h) (fun _ _ _ _ h _ _ => h) (fun _ _ => ?_)
        refine j_aload_n B dX2_answer_53 1 rfl rfl ?_
        refine j_get B (v := .int (σ 6 (ix d))) pgX1 rfl (fun H h => pgR.dk h hj4) 2 (by decide) q_198 rfl (by simp [pgU]) dX2_answer_54 ?_
        have e9 : sp_answer σ d t = (0, σ 6 (ix d), pgU (pgU (pgU (pgU σ 6 (ix d) (-1)) 2 (ix d) (σ 6 (ix d))) 14 (ix d) (σ 6 (ix d))) 13 3 (σ 13 3 + 1)) := by
          simp only [sp_answer, pgHo, pgU_ne (show (13 : Nat) ≠ 6 by decide)]; grind
        exact j_x (j_iret B hr rfl dX2_answer_57 (Nat.le_of_ble_eq_true rfl) (Nat.le_of_ble_eq_true rfl) () ⟨by rw [e9], by rw [e9]⟩ (fun H h => pgR.eq h (by rw [e9])))
    · exact j_throw (k := 3) pgTS pgTS2 pgTS3 rfl q_173 q_8 rfl B hl ht (is := 70) (text := "the disk is missing or not offered") (by decide) dX2_answer_21 dX2_answer_24 dX2_answer_25 dX2_answer_27 dX2_answer_30 (Nat.le_of_ble_eq_true rfl) (Nat.le_of_ble_eq_true rfl) (Nat.le_of_ble_eq_true rfl) (Nat.le_of_ble_eq_true rfl) (Nat.le_of_ble_eq_true rfl) (Nat.le_of_ble_eq_true rfl) (by simp only [sp_answer]; grind) (fun H H1 h hq => pgR.more h hq)
set_option maxHeartbeats 4000000 in
set_option maxRecDepth 100000 in
/-- pack -/
theorem c_X2_pack (l : Launch) (hl : l.stackTraces = false) (D : va_G) (cD cC cI cZ cL : ClassId) (A : Nat → Prop) (σ : pgSt) (n : Nat) (ad : Nat → Nat) (hI : pgI n σ) (d : Int32) (c : Int32) : vx_Met l yX2_pack (.code yX2_pack cX2_pack 5 (some .int) :: pgWd) ({ frames := 7, cells := 4, slots := 24, locals := 104 } : Room) (pgPc D (pgTys cD cC cI cZ cL) A (pgR D cD cC A σ n ad) [.ref (ad 0), .int d, .int c]) (va_Qi (fun (r : Int32) (_ : Unit) => (sp_pack σ d c).1 = 0 ∧ r = (sp_pack σ d c).2.1) (fun _ t9 => pgR D cD cC A ((sp_pack σ d c).2.2) n ad t9.heap) A) (pgX A (fun k => (sp_pack σ d c).1 = k ∧ k ≠ 0) (pgR D cD cC A σ n ad)) 4 24 A := by
  refine pg_enterX (own := RX2) (by decide) rfl (Nat.le_of_ble_eq_true rfl) (fun p e s m below meth cc9 B hr hnm ht => ?_)
  refine j_fact (fun H h => pgR.inA h) (fun hIn => ?_)
  refine j_aload_n B dX2_pack_0 0 rfl rfl ?_
  refine j_iload_n B dX2_pack_1 1 rfl rfl ?_
  refine j_xVr B 1 [.int d] ht (WdC' := pgR D cD cC A σ n ad)  (c_X2_findDisk l hl D cD cC cI cZ cL A σ n ad hI d) rfl (fun H h => pgR.x h) q_245 q_247 q_p2 q_1 q_248 hdX2_findDisk rfl ⟨Nat.le_of_ble_eq_true rfl, Nat.le_of_ble_eq_true rfl⟩ (Nat.le_of_ble_eq_true rfl) dX2_pack_2 rfl ⟨Nat.le_of_ble_eq_true rfl, Nat.le_of_ble_eq_true rfl⟩ (Nat.le_of_ble_eq_true rfl) (Nat.le_of_ble_eq_true rfl) (fun k h => by obtain ⟨rfl, h9⟩ := h; simp only [sp_pack]; grind) (fun H h => h) (fun r1 hp2 => ?_)
  obtain ⟨rfl, hD3⟩ := hp2
  have hj4 := (pgIsD.at hI hD3).1
  refine j_astore_n B (L' := [(3, .ref (ad (13 + ix d))), (0, .ref (ad 0)), (1, .int d), (2, .int c)]) dX2_pack_5 rfl (by decide) rfl ?_
  refine j_aload_n B dX2_pack_6 1 rfl rfl ?_
  refine j_iload_n B dX2_pack_7 3 rfl rfl ?_
  refine j_xVr B 1 [.int c] ht (WdC' := pgR D cD cC A σ n ad)  (c_X2_findCrate l hl D cD cC cI cZ cL A σ n ad c) rfl (fun H h => pgR.x h) q_300 q_302 q_p3 q_1 q_303 hdX2_findCrate rfl ⟨Nat.le_of_ble_eq_true rfl, Nat.le_of_ble_eq_true rfl⟩ (Nat.le_of_ble_eq_true rfl) dX2_pack_8 rfl ⟨Nat.le_of_ble_eq_true rfl, Nat.le_of_ble_eq_true rfl⟩ (Nat.le_of_ble_eq_true rfl) (Nat.le_of_ble_eq_true rfl) (fun k h => by obtain ⟨rfl, h9⟩ := h; simp only [sp_pack]; grind) (fun H h => h) (fun r5 hp6 => ?_)
  obtain ⟨rfl, hD7⟩ := hp6
  have hj8 := (pgIsC.at hD7).1
  refine j_astore B (L' := [(4, .ref (ad (3 + ix c))), (3, .ref (ad (13 + ix d))), (0, .ref (ad 0)), (1, .int d), (2, .int c)]) dX2_pack_11 (by decide) rfl ?_
  refine j_aload_n B dX2_pack_13 1 rfl rfl ?_
  refine j_xSv B 1 [.ref (ad (13 + ix d))] ht (S := Unit) (WdC' := fun _ => pgR D cD cC A σ n ad)  (c_X2_requireLoose l hl D cD cC cI cZ cL A σ n ad (ix d) hj4 hI.2.2.1) q_316 q_317 q_1 q_318 hdX2_requireLoose rfl ⟨Nat.le_of_ble_eq_true rfl, Nat.le_of_ble_eq_true rfl⟩ (Nat.le_of_ble_eq_true rfl) dX2_pack_14 rfl ⟨Nat.le_of_ble_eq_true rfl, Nat.le_of_ble_eq_true rfl⟩ (Nat.le_of_ble_eq_true rfl) (Nat.le_of_ble_eq_true rfl) (fun k h => by obtain ⟨rfl, h9⟩ := h; simp only [sp_pack]; grind) (fun H h => h) (fun u9 hp10 => ?_)
  refine j_aload B dX2_pack_17 0 rfl ?_
  refine j_cVi B (S := Unit) 0 [] (WdC' := fun _ => pgR D cD cC A σ n ad) (fun _ => pgR D cD cC A σ n ad) (c_X0_isSealed l D cD cC cI cZ cL A σ n ad (ix c) hj8) rfl (fun H h => pgR.cr h hj8) q_329 q_330 q_331 q_2 q_332 hdX0_isSealed rfl ⟨Nat.le_of_ble_eq_true rfl, Nat.le_of_ble_eq_true rfl⟩ (Nat.le_of_ble_eq_true rfl) dX2_pack_19 rfl ⟨Nat.le_of_ble_eq_true rfl, Nat.le_of_ble_eq_true rfl⟩ (fun _ h => h) (fun _ _ _ _ h => h) (fun _ h => h) (fun _ _ _ _ h _ _ => h) (fun r11 _ hp12 => ?_)
  by_cases h13 : ¬ σ 11 (ix c) = -1
  · obtain rfl : r11 = 1 := by rw [hp12]; exact if_pos h13
    refine j_if_ne B 37 dX2_pack_22 (by decide) (fun h14 => ?_) (fun h14 => (absurd h14 (by decide)))
    exact j_throw (k := 3) pgTS pgTS2 pgTS3 rfl q_173 q_8 rfl B hl ht (is := 81) (text := "the crate is sealed or with another keeper") (by decide) dX2_pack_37 dX2_pack_40 dX2_pack_41 dX2_pack_43 dX2_pack_46 (Nat.le_of_ble_eq_true rfl) (Nat.le_of_ble_eq_true rfl) (Nat.le_of_ble_eq_true rfl) (Nat.le_of_ble_eq_true rfl) (Nat.le_of_ble_eq_true rfl) (Nat.le_of_ble_eq_true rfl) (by simp only [sp_pack]; grind) (fun H H1 h hq => pgR.more h hq)
  · obtain rfl : r11 = 0 := by rw [hp12]; exact if_neg h13
    refine j_if_ne B 37 dX2_pack_22 (by decide) (fun h15 => (absurd (by decide) h15)) (fun h15 => ?_)
    refine j_aload B dX2_pack_25 0 rfl ?_
    refine j_get B (v := .int (σ 10 (ix c))) pgX0 rfl (fun H h => pgR.cr h hj8) 1 (by decide) q_34 rfl rfl dX2_pack_27 ?_
    refine j_aload_n B dX2_pack_30 1 rfl rfl ?_
    refine j_get B (v := .int (σ 2 (ix d))) pgX1 rfl (fun H h => pgR.dk h hj4) 2 (by decide) q_198 rfl rfl dX2_pack_31 ?_
    refine j_icmp_eq B 47 dX2_pack_34 (by decide) (fun h16 => ?_) (fun h16 => ?_)
    · refine j_aload_n B dX2_pack_47 1 rfl rfl ?_
      refine j_aload B dX2_pack_48 0 rfl ?_
      refine j_put B (Wd' := pgR D cD cC A (pgU σ 3 (ix d) c) n ad) pgX1 tyX1 tyX1_ok nmX1 rfl (fun H h => pgR.dk h hj4) 4 (by decide) q_201 rfl rfl rfl rfl rfl (Nat.le_of_ble_eq_true rfl) dX2_pack_50 (hIn (13 + ix d) (by omega)) (fun H H1 h hc hz ho => pgR.putD h hj4 (by decide) (pgDs4r hj8 (pgIsC.at hD7).2) hc ho) ?_
      refine j_aload_n B dX2_pack_53 2 rfl rfl ?_
      refine j_aload B dX2_pack_54 0 rfl ?_
      refine j_cVi B (S := Unit) 1 [.ref (ad (3 + ix c))] (WdC' := fun _ => pgR D cD cC A (pgU σ 3 (ix d) c) n ad) (fun _ => pgR D cD cC A (pgU σ 3 (ix d) c) n ad) (c_X2_countDisksIn l D cD cC cI cZ cL A (pgU σ 3 (ix d) c) n ad (ix c) hj8 hI.1 (pgCr_U hI.2.2.1 (Or.inr ⟨ix c, (pgIsC.at (by assumption)).1, (pgIsC.at (by assumption)).2⟩))) rfl (fun H h => pgR.x h) q_334 q_336 q_p4 q_1 q_337 hdX2_countDisksIn rfl ⟨Nat.le_of_ble_eq_true rfl, Nat.le_of_ble_eq_true rfl⟩ (Nat.le_of_ble_eq_true rfl) dX2_pack_56 rfl ⟨Nat.le_of_ble_eq_true rfl, Nat.le_of_ble_eq_true rfl⟩ (fun _ h => h) (fun _ _ _ _ h => h) (fun _ h => h) (fun _ _ _ _ h _ _ => h) (fun r17 _ hp18 => ?_)
      obtain rfl : r17 = pgCnt (pgU σ 3 (ix d) c) n (nI (ix c)) := hp18
      have hn7 : ix (σ 13 0) = n := pgI_n hI
      have hc7 : nI (ix c) = c := (pgIsC.at (by assumption)).2.symm
      have e9 : sp_pack σ d c = (0, pgCnt (pgU σ 3 (ix d) c) n (nI (ix c)), pgU σ 3 (ix d) c) := by
        simp only [sp_pack, hn7, hc7]; grind
      exact j_x (j_iret B hr rfl dX2_pack_59 (Nat.le_of_ble_eq_true rfl) (Nat.le_of_ble_eq_true rfl) () ⟨by rw [e9], by rw [e9]⟩ (fun H h => pgR.eq h (by rw [e9])))
    · exact j_throw (k := 3) pgTS pgTS2 pgTS3 rfl q_173 q_8 rfl B hl ht (is := 81) (text := "the crate is sealed or with another keeper") (by decide) dX2_pack_37 dX2_pack_40 dX2_pack_41 dX2_pack_43 dX2_pack_46 (Nat.le_of_ble_eq_true rfl) (Nat.le_of_ble_eq_true rfl) (Nat.le_of_ble_eq_true rfl) (Nat.le_of_ble_eq_true rfl) (Nat.le_of_ble_eq_true rfl) (Nat.le_of_ble_eq_true rfl) (by simp only [sp_pack]; grind) (fun H H1 h hq => pgR.more h hq)
set_option maxHeartbeats 4000000 in
set_option maxRecDepth 100000 in
/-- unpack -/
theorem c_X2_unpack (l : Launch) (hl : l.stackTraces = false) (D : va_G) (cD cC cI cZ cL : ClassId) (A : Nat → Prop) (σ : pgSt) (n : Nat) (ad : Nat → Nat) (hI : pgI n σ) (d : Int32) : vx_Met l yX2_unpack (.code yX2_unpack cX2_unpack 4 (some .int) :: pgWd) ({ frames := 7, cells := 2, slots := 12, locals := 104 } : Room) (pgPc D (pgTys cD cC cI cZ cL) A (pgR D cD cC A σ n ad) [.ref (ad 0), .int d]) (va_Qi (fun (r : Int32) (_ : Unit) => (sp_unpack σ d).1 = 0 ∧ r = (sp_unpack σ d).2.1) (fun _ t9 => pgR D cD cC A ((sp_unpack σ d).2.2) n ad t9.heap) A) (pgX A (fun k => (sp_unpack σ d).1 = k ∧ k ≠ 0) (pgR D cD cC A σ n ad)) 2 12 A := by
  refine pg_enterX (own := RX2) (by decide) rfl (Nat.le_of_ble_eq_true rfl) (fun p e s m below meth cc9 B hr hnm ht => ?_)
  refine j_fact (fun H h => pgR.inA h) (fun hIn => ?_)
  refine j_aload_n B dX2_unpack_0 0 rfl rfl ?_
  refine j_iload_n B dX2_unpack_1 1 rfl rfl ?_
  refine j_xVr B 1 [.int d] ht (WdC' := pgR D cD cC A σ n ad)  (c_X2_findDisk l hl D cD cC cI cZ cL A σ n ad hI d) rfl (fun H h => pgR.x h) q_245 q_247 q_p2 q_1 q_248 hdX2_findDisk rfl ⟨Nat.le_of_ble_eq_true rfl, Nat.le_of_ble_eq_true rfl⟩ (Nat.le_of_ble_eq_true rfl) dX2_unpack_2 rfl ⟨Nat.le_of_ble_eq_true rfl, Nat.le_of_ble_eq_true rfl⟩ (Nat.le_of_ble_eq_true rfl) (Nat.le_of_ble_eq_true rfl) (fun k h => by obtain ⟨rfl, h9⟩ := h; simp only [sp_unpack]; grind) (fun H h => h) (fun r1 hp2 => ?_)
  obtain ⟨rfl, hD3⟩ := hp2
  have hj4 := (pgIsD.at hI hD3).1
  refine j_astore_n B (L' := [(2, .ref (ad (13 + ix d))), (0, .ref (ad 0)), (1, .int d)]) dX2_unpack_5 rfl (by decide) rfl ?_
  refine j_aload_n B dX2_unpack_6 0 rfl rfl ?_
  rcases hI.2.2.1 (ix d) hj4 with e7 | ⟨c5, hc6, e7⟩
  · refine j_get B (v := .null) pgX1 rfl (fun H h => pgR.dk h hj4) 4 (by decide) q_201 rfl (congrArg some (pgCv_null e7)) dX2_unpack_7 ?_
    refine j_astore_nN B (L' := [(3, .null), (2, .ref (ad (13 + ix d))), (0, .ref (ad 0)), (1, .int d)]) dX2_unpack_10 rfl (by decide) rfl ?_
    refine j_aload_n B dX2_unpack_11 1 rfl rfl ?_
    refine j_get B (v := .int (σ 5 (ix d))) pgX1 rfl (fun H h => pgR.dk h hj4) 9 (by decide) q_210 rfl rfl dX2_unpack_12 ?_
    refine j_if_ne B 29 dX2_unpack_15 (by decide) (fun h8 => ?_) (fun h8 => ?_)
    · exact j_throw (k := 3) pgTS pgTS2 pgTS3 rfl q_173 q_8 rfl B hl ht (is := 91) (text := "the disk is missing, in no crate or in a sealed one") (by decide) dX2_unpack_29 dX2_unpack_32 dX2_unpack_33 dX2_unpack_35 dX2_unpack_38 (Nat.le_of_ble_eq_true rfl) (Nat.le_of_ble_eq_true rfl) (Nat.le_of_ble_eq_true rfl) (Nat.le_of_ble_eq_true rfl) (Nat.le_of_ble_eq_true rfl) (Nat.le_of_ble_eq_true rfl) (by simp only [sp_unpack]; grind) (fun H H1 h hq => pgR.more h hq)
    · refine j_aload_nN B dX2_unpack_18 0 rfl rfl ?_
      refine j_ifnullN B 29 dX2_unpack_19 (by decide) ?_
      exact j_throw (k := 3) pgTS pgTS2 pgTS3 rfl q_173 q_8 rfl B hl ht (is := 91) (text := "the disk is missing, in no crate or in a sealed one") (by decide) dX2_unpack_29 dX2_unpack_32 dX2_unpack_33 dX2_unpack_35 dX2_unpack_38 (Nat.le_of_ble_eq_true rfl) (Nat.le_of_ble_eq_true rfl) (Nat.le_of_ble_eq_true rfl) (Nat.le_of_ble_eq_true rfl) (Nat.le_of_ble_eq_true rfl) (Nat.le_of_ble_eq_true rfl) (by simp only [sp_unpack]; grind) (fun H H1 h hq => pgR.more h hq)
  · have xe7 := pgCx hc6 e7
    refine j_get B (v := .ref (ad (3 + c5))) pgX1 rfl (fun H h => pgR.dk h hj4) 4 (by decide) q_201 rfl (congrArg some (pgCv_ref hc6 e7)) dX2_unpack_7 ?_
    refine j_astore_n B (L' := [(3, .ref (ad (3 + c5))), (2, .ref (ad (13 + ix d))), (0, .ref (ad 0)), (1, .int d)]) dX2_unpack_10 rfl (by decide) rfl ?_
    refine j_aload_n B dX2_unpack_11 1 rfl rfl ?_
    refine j_get B (v := .int (σ 5 (ix d))) pgX1 rfl (fun H h => pgR.dk h hj4) 9 (by decide) q_210 rfl rfl dX2_unpack_12 ?_
    refine j_if_ne B 29 dX2_unpack_15 (by decide) (fun h9 => ?_) (fun h9 => ?_)
    · exact j_throw (k := 3) pgTS pgTS2 pgTS3 rfl q_173 q_8 rfl B hl ht (is := 91) (text := "the disk is missing, in no crate or in a sealed one") (by decide) dX2_unpack_29 dX2_unpack_32 dX2_unpack_33 dX2_unpack_35 dX2_unpack_38 (Nat.le_of_ble_eq_true rfl) (Nat.le_of_ble_eq_true rfl) (Nat.le_of_ble_eq_true rfl) (Nat.le_of_ble_eq_true rfl) (Nat.le_of_ble_eq_true rfl) (Nat.le_of_ble_eq_true rfl) (by simp only [sp_unpack]; grind) (fun H H1 h hq => pgR.more h hq)
    · refine j_aload_n B dX2_unpack_18 0 rfl rfl ?_
      refine j_ifnull B dX2_unpack_19 ?_
      refine j_aload_n B dX2_unpack_22 0 rfl rfl ?_
      refine j_cVi B (S := Unit) 0 [] (WdC' := fun _ => pgR D cD cC A σ n ad) (fun _ => pgR D cD cC A σ n ad) (c_X0_isSealed l D cD cC cI cZ cL A σ n ad c5 hc6) rfl (fun H h => pgR.cr h hc6) q_329 q_330 q_331 q_2 q_332 hdX0_isSealed rfl ⟨Nat.le_of_ble_eq_true rfl, Nat.le_of_ble_eq_true rfl⟩ (Nat.le_of_ble_eq_true rfl) dX2_unpack_23 rfl ⟨Nat.le_of_ble_eq_true rfl, Nat.le_of_ble_eq_true rfl⟩ (fun _ h => h) (fun _ _ _ _ h => h) (fun _ h => h) (fun _ _ _ _ h _ _ => h) (fun r10 _ hp11 => ?_)
      by_cases h12 : ¬ σ 11 c5 = -1
      · obtain rfl : r10 = 1 := by rw [hp11]; exact if_pos h12
        refine j_if_eq B 39 dX2_unpack_26 (by decide) (fun h13 => (absurd h13 (by decide))) (fun h13 => ?_)
        exact j_throw (k := 3) pgTS pgTS2 pgTS3 rfl q_173 q_8 rfl B hl ht (is := 91) (text := "the disk is missing, in no crate or in a sealed one") (by decide) dX2_unpack_29 dX2_unpack_32 dX2_unpack_33 dX2_unpack_35 dX2_unpack_38 (Nat.le_of_ble_eq_true rfl) (Nat.le_of_ble_eq_true rfl) (Nat.le_of_ble_eq_true rfl) (Nat.le_of_ble_eq_true rfl) (Nat.le_of_ble_eq_true rfl) (Nat.le_of_ble_eq_true rfl) (by simp only [sp_unpack]; grind) (fun H H1 h hq => pgR.more h hq)
      · obtain rfl : r10 = 0 := by rw [hp11]; exact if_neg h12
        refine j_if_eq B 39 dX2_unpack_26 (by decide) (fun h14 => ?_) (fun h14 => (absurd (by decide) h14))
        refine j_aload_n B dX2_unpack_39 1 rfl rfl ?_
        refine j_null B dX2_unpack_40 ?_
        refine j_put B (Wd' := pgR D cD cC A (pgU σ 3 (ix d) (-1)) n ad) pgX1 tyX1 tyX1_ok nmX1 rfl (fun H h => pgR.dk h hj4) 4 (by decide) q_201 rfl rfl rfl rfl rfl (Nat.le_of_ble_eq_true rfl) dX2_unpack_41 (hIn (13 + ix d) (by omega)) (fun H H1 h hc hz ho => pgR.putD h hj4 (by decide) pgDs4n hc ho) ?_
        refine j_aload_n B dX2_unpack_44 0 rfl rfl ?_
        refine j_get B (v := .int (nI c5)) pgX0 rfl (fun H h => pgR.cr h hc6) 0 (by decide) q_33 rfl rfl dX2_unpack_45 ?_
        have e9 : sp_unpack σ d = (0, nI c5, pgU σ 3 (ix d) (-1)) := by
          simp only [sp_unpack]; grind
        exact j_x (j_iret B hr rfl dX2_unpack_48 (Nat.le_of_ble_eq_true rfl) (Nat.le_of_ble_eq_true rfl) () ⟨by rw [e9], by rw [e9]⟩ (fun H h => pgR.eq h (by rw [e9])))
set_option maxHeartbeats 4000000 in
set_option maxRecDepth 100000 in
/-- seal -/
theorem c_X2_seal (l : Launch) (hl : l.stackTraces = false) (D : va_G) (cD cC cI cZ cL : ClassId) (A : Nat → Prop) (σ : pgSt) (n : Nat) (ad : Nat → Nat) (hI : pgI n σ) (c : Int32) : vx_Met l yX2_seal (.code yX2_seal cX2_seal 3 (some .int) :: pgWd) ({ frames := 7, cells := 2, slots := 12, locals := 104 } : Room) (pgPc D (pgTys cD cC cI cZ cL) A (pgR D cD cC A σ n ad) [.ref (ad 0), .int c]) (va_Qi (fun (r : Int32) (_ : Unit) => (sp_seal σ c).1 = 0 ∧ r = (sp_seal σ c).2.1) (fun _ t9 => pgR D cD cC A ((sp_seal σ c).2.2) n ad t9.heap) A) (pgX A (fun k => (sp_seal σ c).1 = k ∧ k ≠ 0) (pgR D cD cC A σ n ad)) 2 12 A := by
  refine pg_enterX (own := RX2) (by decide) rfl (Nat.le_of_ble_eq_true rfl) (fun p e s m below meth cc9 B hr hnm ht => ?_)
  refine j_fact (fun H h => pgR.inA h) (fun hIn => ?_)
  refine j_aload_n B dX2_seal_0 0 rfl rfl ?_
  refine j_iload_n B dX2_seal_1 1 rfl rfl ?_
  refine j_xVr B 1 [.int c] ht (WdC' := pgR D cD cC A σ n ad)  (c_X2_findCrate l hl D cD cC cI cZ cL A σ n ad c) rfl (fun H h => pgR.x h) q_300 q_302 q_p3 q_1 q_303 hdX2_findCrate rfl ⟨Nat.le_of_ble_eq_true rfl, Nat.le_of_ble_eq_true rfl⟩ (Nat.le_of_ble_eq_true rfl) dX2_seal_2 rfl ⟨Nat.le_of_ble_eq_true rfl, Nat.le_of_ble_eq_true rfl⟩ (Nat.le_of_ble_eq_true rfl) (Nat.le_of_ble_eq_true rfl) (fun k h => by obtain ⟨rfl, h9⟩ := h; simp only [sp_seal]; grind) (fun H h => h) (fun r1 hp2 => ?_)
  obtain ⟨rfl, hD3⟩ := hp2
  have hj4 := (pgIsC.at hD3).1
  refine j_astore_n B (L' := [(2, .ref (ad (3 + ix c))), (0, .ref (ad 0)), (1, .int c)]) dX2_seal_5 rfl (by decide) rfl ?_
  refine j_aload_n B dX2_seal_6 0 rfl rfl ?_
  refine j_cVi B (S := Unit) 0 [] (WdC' := fun _ => pgR D cD cC A σ n ad) (fun _ => pgR D cD cC A σ n ad) (c_X0_isSealed l D cD cC cI cZ cL A σ n ad (ix c) hj4) rfl (fun H h => pgR.cr h hj4) q_329 q_330 q_331 q_2 q_332 hdX0_isSealed rfl ⟨Nat.le_of_ble_eq_true rfl, Nat.le_of_ble_eq_true rfl⟩ (Nat.le_of_ble_eq_true rfl) dX2_seal_7 rfl ⟨Nat.le_of_ble_eq_true rfl, Nat.le_of_ble_eq_true rfl⟩ (fun _ h => h) (fun _ _ _ _ h => h) (fun _ h => h) (fun _ _ _ _ h _ _ => h) (fun r5 _ hp6 => ?_)
  by_cases h7 : ¬ σ 11 (ix c) = -1
  · obtain rfl : r5 = 1 := by rw [hp6]; exact if_pos h7
    refine j_if_ne B 22 dX2_seal_10 (by decide) (fun h8 => ?_) (fun h8 => (absurd h8 (by decide)))
    exact j_throw (k := 3) pgTS pgTS2 pgTS3 rfl q_173 q_8 rfl B hl ht (is := 99) (text := "the crate is sealed or no more seals can be made") (by decide) dX2_seal_22 dX2_seal_25 dX2_seal_26 dX2_seal_28 dX2_seal_31 (Nat.le_of_ble_eq_true rfl) (Nat.le_of_ble_eq_true rfl) (Nat.le_of_ble_eq_true rfl) (Nat.le_of_ble_eq_true rfl) (Nat.le_of_ble_eq_true rfl) (Nat.le_of_ble_eq_true rfl) (by simp only [sp_seal]; grind) (fun H H1 h hq => pgR.more h hq)
  · obtain rfl : r5 = 0 := by rw [hp6]; exact if_neg h7
    refine j_if_ne B 22 dX2_seal_10 (by decide) (fun h9 => (absurd (by decide) h9)) (fun h9 => ?_)
    refine j_aload_n B dX2_seal_13 1 rfl rfl ?_
    refine j_get B (v := .int (σ 13 1)) pgX2 rfl (fun H h => pgR.x h) 3 (by decide) q_50 rfl rfl dX2_seal_14 ?_
    refine j_bipush B (v := 100) dX2_seal_17 (by decide) ?_
    refine j_icmp_lt B 32 dX2_seal_19 (by decide) (fun h10 => ?_) (fun h10 => ?_)
    · refine j_aload_n B dX2_seal_32 0 rfl rfl ?_
      refine j_aload_n B dX2_seal_33 1 rfl rfl ?_
      refine j_get B (v := .int (σ 13 1)) pgX2 rfl (fun H h => pgR.x h) 3 (by decide) q_50 rfl rfl dX2_seal_34 ?_
      refine j_put B (Wd' := pgR D cD cC A (pgU σ 11 (ix c) (σ 13 1)) n ad) pgX0 tyX0 tyX0_ok nmX0 rfl (fun H h => pgR.cr h hj4) 2 (by decide) q_36 rfl rfl rfl rfl rfl (Nat.le_of_ble_eq_true rfl) dX2_seal_37 (hIn (3 + ix c) (by omega)) (fun H H1 h hc hz ho => pgR.putK h hj4 (by decide) pgKs2 hc ho) ?_
      refine j_aload_n B dX2_seal_40 0 rfl rfl ?_
      refine j_aload_n B dX2_seal_41 1 rfl rfl ?_
      refine j_aload_n B dX2_seal_42 0 rfl rfl ?_
      refine j_cVi B (S := Unit) 1 [.ref (ad (3 + ix c))] (WdC' := fun _ => pgR D cD cC A (pgU σ 11 (ix c) (σ 13 1)) n ad) (fun _ => pgR D cD cC A (pgU σ 11 (ix c) (σ 13 1)) n ad) (c_X2_countDisksIn l D cD cC cI cZ cL A (pgU σ 11 (ix c) (σ 13 1)) n ad (ix c) hj4 hI.1 (pgCr_ne (by decide) hI.2.2.1)) rfl (fun H h => pgR.x h) q_334 q_336 q_p4 q_1 q_337 hdX2_countDisksIn rfl ⟨Nat.le_of_ble_eq_true rfl, Nat.le_of_ble_eq_true rfl⟩ (Nat.le_of_ble_eq_true rfl) dX2_seal_43 rfl ⟨Nat.le_of_ble_eq_true rfl, Nat.le_of_ble_eq_true rfl⟩ (fun _ h => h) (fun _ _ _ _ h => h) (fun _ h => h) (fun _ _ _ _ h _ _ => h) (fun r11 _ hp12 => ?_)
      obtain rfl : r11 = pgCnt (pgU σ 11 (ix c) (σ 13 1)) n (nI (ix c)) := hp12
      refine j_put B (Wd' := pgR D cD cC A (pgU (pgU σ 11 (ix c) (σ 13 1)) 12 (ix c) (pgCnt (pgU σ 11 (ix c) (σ 13 1)) n (nI (ix c)))) n ad) pgX0 tyX0 tyX0_ok nmX0 rfl (fun H h => pgR.cr h hj4) 3 (by decide) q_37 rfl rfl rfl rfl rfl (Nat.le_of_ble_eq_true rfl) dX2_seal_46 (hIn (3 + ix c) (by omega)) (fun H H1 h hc hz ho => pgR.putK h hj4 (by decide) pgKs3 hc ho) ?_
      refine j_aload_n B dX2_seal_49 1 rfl rfl ?_
      refine j_dup B dX2_seal_50 rfl ?_
      refine j_get B (v := .int (σ 13 1)) pgX2 rfl (fun H h => pgR.x h) 3 (by decide) q_50 rfl rfl dX2_seal_51 ?_
      refine j_iconst B (v := 1) dX2_seal_54 (by decide) ?_
      refine j_iadd B dX2_seal_55 ?_
      refine j_put B (Wd' := pgR D cD cC A (pgU (pgU (pgU σ 11 (ix c) (σ 13 1)) 12 (ix c) (pgCnt (pgU σ 11 (ix c) (σ 13 1)) n (nI (ix c)))) 13 1 ((σ 13 1) + 1)) n ad) pgX2 tyX2 tyX2_ok nmX2 rfl (fun H h => pgR.x h) 3 (by decide) q_50 rfl rfl rfl rfl rfl (Nat.le_of_ble_eq_true rfl) dX2_seal_56 (hIn 0 (by omega)) (fun H H1 h hc hz ho => pgR.putX h pgXs3 hc ho) ?_
      refine j_aload_n B dX2_seal_59 0 rfl rfl ?_
      refine j_get B (v := .int (σ 13 1)) pgX0 rfl (fun H h => pgR.cr h hj4) 2 (by decide) q_36 rfl (by simp [pgU]) dX2_seal_60 ?_
      have hn7 : ix (σ 13 0) = n := pgI_n hI
      have hc7 : nI (ix c) = c := (pgIsC.at (by assumption)).2.symm
      have e9 : sp_seal σ c = (0, σ 13 1, pgU (pgU (pgU σ 11 (ix c) (σ 13 1)) 12 (ix c) (pgCnt (pgU σ 11 (ix c) (σ 13 1)) n (nI (ix c)))) 13 1 ((σ 13 1) + 1)) := by
        simp only [sp_seal, hn7, hc7, pgCnt, pgU_self, pgU_ne (show (3 : Nat) ≠ 11 by decide), pgU_ne (show (11 : Nat) ≠ 12 by decide), pgU_ne (show (11 : Nat) ≠ 13 by decide)]; grind
      exact j_x (j_iret B hr rfl dX2_seal_63 (Nat.le_of_ble_eq_true rfl) (Nat.le_of_ble_eq_true rfl) () ⟨by rw [e9], by rw [e9]⟩ (fun H h => pgR.eq h (by rw [e9])))
    · exact j_throw (k := 3) pgTS pgTS2 pgTS3 rfl q_173 q_8 rfl B hl ht (is := 99) (text := "the crate is sealed or no more seals can be made") (by decide) dX2_seal_22 dX2_seal_25 dX2_seal_26 dX2_seal_28 dX2_seal_31 (Nat.le_of_ble_eq_true rfl) (Nat.le_of_ble_eq_true rfl) (Nat.le_of_ble_eq_true rfl) (Nat.le_of_ble_eq_true rfl) (Nat.le_of_ble_eq_true rfl) (Nat.le_of_ble_eq_true rfl) (by simp only [sp_seal]; grind) (fun H H1 h hq => pgR.more h hq)
set_option maxHeartbeats 4000000 in
set_option maxRecDepth 100000 in
/-- open -/
theorem c_X2_open (l : Launch) (hl : l.stackTraces = false) (D : va_G) (cD cC cI cZ cL : ClassId) (A : Nat → Prop) (σ : pgSt) (n : Nat) (ad : Nat → Nat) (hI : pgI n σ) (c : Int32) (k0 : Int32) : vx_Met l yX2_open (.code yX2_open cX2_open 5 (some .int) :: pgWd) ({ frames := 7, cells := 2, slots := 12, locals := 104 } : Room) (pgPc D (pgTys cD cC cI cZ cL) A (pgR D cD cC A σ n ad) [.ref (ad 0), .int c, .int k0]) (va_Qi (fun (r : Int32) (_ : Unit) => (sp_open σ c k0).1 = 0 ∧ r = (sp_open σ c k0).2.1) (fun _ t9 => pgR D cD cC A ((sp_open σ c k0).2.2) n ad t9.heap) A) (pgX A (fun k => (sp_open σ c k0).1 = k ∧ k ≠ 0) (pgR D cD cC A σ n ad)) 2 12 A := by
  refine pg_enterX (own := RX2) (by decide) rfl (Nat.le_of_ble_eq_true rfl) (fun p e s m below meth cc9 B hr hnm ht => ?_)
  refine j_fact (fun H h => pgR.inA h) (fun hIn => ?_)
  refine j_aload_n B dX2_open_0 0 rfl rfl ?_
  refine j_iload_n B dX2_open_1 1 rfl rfl ?_
  refine j_xVr B 1 [.int c] ht (WdC' := pgR D cD cC A σ n ad)  (c_X2_findCrate l hl D cD cC cI cZ cL A σ n ad c) rfl (fun H h => pgR.x h) q_300 q_302 q_p3 q_1 q_303 hdX2_findCrate rfl ⟨Nat.le_of_ble_eq_true rfl, Nat.le_of_ble_eq_true rfl⟩ (Nat.le_of_ble_eq_true rfl) dX2_open_2 rfl ⟨Nat.le_of_ble_eq_true rfl, Nat.le_of_ble_eq_true rfl⟩ (Nat.le_of_ble_eq_true rfl) (Nat.le_of_ble_eq_true rfl) (fun k h => by obtain ⟨rfl, h9⟩ := h; simp only [sp_open]; grind) (fun H h => h) (fun r1 hp2 => ?_)
  obtain ⟨rfl, hD3⟩ := hp2
  have hj4 := (pgIsC.at hD3).1
  refine j_astore_n B (L' := [(3, .ref (ad (3 + ix c))), (0, .ref (ad 0)), (1, .int c), (2, .int k0)]) dX2_open_5 rfl (by decide) rfl ?_
  refine j_iload_n B dX2_open_6 3 rfl rfl ?_
  refine j_if_lt B 16 dX2_open_7 (by decide) (fun h5 => ?_) (fun h5 => ?_)
  · exact j_throw (k := 2) pgTA pgTA2 pgTA3 rfl q_157 q_7 rfl B hl ht (is := 107) (text := "the count is out of range") (by decide) dX2_open_16 dX2_open_19 dX2_open_20 dX2_open_22 dX2_open_25 (Nat.le_of_ble_eq_true rfl) (Nat.le_of_ble_eq_true rfl) (Nat.le_of_ble_eq_true rfl) (Nat.le_of_ble_eq_true rfl) (Nat.le_of_ble_eq_true rfl) (Nat.le_of_ble_eq_true rfl) (by simp only [sp_open]; grind) (fun H H1 h hq => pgR.more h hq)
  · refine j_iload_n B dX2_open_10 3 rfl rfl ?_
    refine j_bipush B (v := 99) dX2_open_11 (by decide) ?_
    refine j_icmp_le B 26 dX2_open_13 (by decide) (fun h6 => ?_) (fun h6 => ?_)
    · refine j_aload_n B dX2_open_26 0 rfl rfl ?_
      refine j_cVi B (S := Unit) 0 [] (WdC' := fun _ => pgR D cD cC A σ n ad) (fun _ => pgR D cD cC A σ n ad) (c_X0_isSealed l D cD cC cI cZ cL A σ n ad (ix c) hj4) rfl (fun H h => pgR.cr h hj4) q_329 q_330 q_331 q_2 q_332 hdX0_isSealed rfl ⟨Nat.le_of_ble_eq_true rfl, Nat.le_of_ble_eq_true rfl⟩ (Nat.le_of_ble_eq_true rfl) dX2_open_27 rfl ⟨Nat.le_of_ble_eq_true rfl, Nat.le_of_ble_eq_true rfl⟩ (fun _ h => h) (fun _ _ _ _ h => h) (fun _ h => h) (fun _ _ _ _ h _ _ => h) (fun r7 _ hp8 => ?_)
      by_cases h9 : ¬ σ 11 (ix c) = -1
      · obtain rfl : r7 = 1 := by rw [hp8]; exact if_pos h9
        refine j_if_ne B 43 dX2_open_30 (by decide) (fun h10 => ?_) (fun h10 => (absurd h10 (by decide)))
        refine j_iload_n B dX2_open_43 3 rfl rfl ?_
        refine j_aload_n B dX2_open_44 0 rfl rfl ?_
        refine j_get B (v := .int (σ 12 (ix c))) pgX0 rfl (fun H h => pgR.cr h hj4) 3 (by decide) q_37 rfl rfl dX2_open_45 ?_
        refine j_isub B dX2_open_48 ?_
        refine j_istore B (L' := [(4, .int (k0 - (σ 12 (ix c)))), (3, .ref (ad (3 + ix c))), (0, .ref (ad 0)), (1, .int c), (2, .int k0)]) dX2_open_49 (by decide) rfl ?_
        refine j_aload_n B dX2_open_51 1 rfl rfl ?_
        refine j_iconst B (v := (-1)) dX2_open_52 (by decide) ?_
        refine j_put B (Wd' := pgR D cD cC A (pgU σ 11 (ix c) (-1)) n ad) pgX0 tyX0 tyX0_ok nmX0 rfl (fun H h => pgR.cr h hj4) 2 (by decide) q_36 rfl rfl rfl rfl rfl (Nat.le_of_ble_eq_true rfl) dX2_open_53 (hIn (3 + ix c) (by omega)) (fun H H1 h hc hz ho => pgR.putK h hj4 (by decide) pgKs2 hc ho) ?_
        refine j_iload B dX2_open_56 0 rfl ?_
        refine j_if_eq B 71 dX2_open_58 (by decide) (fun h11 => ?_) (fun h11 => ?_)
        · refine j_iload B dX2_open_71 0 rfl ?_
          have e9 : sp_open σ c k0 = (0, (k0 - (σ 12 (ix c))), pgU σ 11 (ix c) (-1)) := by
            simp only [sp_open]; grind
          exact j_x (j_iret B hr rfl dX2_open_73 (Nat.le_of_ble_eq_true rfl) (Nat.le_of_ble_eq_true rfl) () ⟨by rw [e9], by rw [e9]⟩ (fun H h => pgR.eq h (by rw [e9])))
        · refine j_aload_n B dX2_open_61 2 rfl rfl ?_
          refine j_dup B dX2_open_62 rfl ?_
          refine j_get B (v := .int (σ 13 2)) pgX2 rfl (fun H h => pgR.x h) 4 (by decide) q_51 rfl rfl dX2_open_63 ?_
          refine j_iconst B (v := 1) dX2_open_66 (by decide) ?_
          refine j_iadd B dX2_open_67 ?_
          refine j_put B (Wd' := pgR D cD cC A (pgU (pgU σ 11 (ix c) (-1)) 13 2 ((σ 13 2) + 1)) n ad) pgX2 tyX2 tyX2_ok nmX2 rfl (fun H h => pgR.x h) 4 (by decide) q_51 rfl rfl rfl rfl rfl (Nat.le_of_ble_eq_true rfl) dX2_open_68 (hIn 0 (by omega)) (fun H H1 h hc hz ho => pgR.putX h pgXs4 hc ho) ?_
          refine j_iload B dX2_open_71 0 rfl ?_
          have e9 : sp_open σ c k0 = (0, (k0 - (σ 12 (ix c))), pgU (pgU σ 11 (ix c) (-1)) 13 2 ((σ 13 2) + 1)) := by
            simp only [sp_open]; grind
          exact j_x (j_iret B hr rfl dX2_open_73 (Nat.le_of_ble_eq_true rfl) (Nat.le_of_ble_eq_true rfl) () ⟨by rw [e9], by rw [e9]⟩ (fun H h => pgR.eq h (by rw [e9])))
      · obtain rfl : r7 = 0 := by rw [hp8]; exact if_neg h9
        refine j_if_ne B 43 dX2_open_30 (by decide) (fun h12 => (absurd (by decide) h12)) (fun h12 => ?_)
        exact j_throw (k := 3) pgTS pgTS2 pgTS3 rfl q_173 q_8 rfl B hl ht (is := 109) (text := "the crate is open") (by decide) dX2_open_33 dX2_open_36 dX2_open_37 dX2_open_39 dX2_open_42 (Nat.le_of_ble_eq_true rfl) (Nat.le_of_ble_eq_true rfl) (Nat.le_of_ble_eq_true rfl) (Nat.le_of_ble_eq_true rfl) (Nat.le_of_ble_eq_true rfl) (Nat.le_of_ble_eq_true rfl) (by simp only [sp_open]; grind) (fun H H1 h hq => pgR.more h hq)
    · exact j_throw (k := 2) pgTA pgTA2 pgTA3 rfl q_157 q_7 rfl B hl ht (is := 107) (text := "the count is out of range") (by decide) dX2_open_16 dX2_open_19 dX2_open_20 dX2_open_22 dX2_open_25 (Nat.le_of_ble_eq_true rfl) (Nat.le_of_ble_eq_true rfl) (Nat.le_of_ble_eq_true rfl) (Nat.le_of_ble_eq_true rfl) (Nat.le_of_ble_eq_true rfl) (Nat.le_of_ble_eq_true rfl) (by simp only [sp_open]; grind) (fun H H1 h hq => pgR.more h hq)
set_option maxHeartbeats 4000000 in
set_option maxRecDepth 100000 in
/-- carry -/
theorem c_X2_carry (l : Launch) (hl : l.stackTraces = false) (D : va_G) (cD cC cI cZ cL : ClassId) (A : Nat → Prop) (σ : pgSt) (n : Nat) (ad : Nat → Nat) (hI : pgI n σ) (c : Int32) (to : Int32) : vx_Met l yX2_carry (.code yX2_carry cX2_carry 5 (some .int) :: pgWd) ({ frames := 7, cells := 3, slots := 18, locals := 104 } : Room) (pgPc D (pgTys cD cC cI cZ cL) A (pgR D cD cC A σ n ad) [.ref (ad 0), .int c, .int to]) (va_Qi (fun (r : Int32) (_ : Unit) => (sp_carry σ c to).1 = 0 ∧ r = (sp_carry σ c to).2.1) (fun _ t9 => pgR D cD cC A ((sp_carry σ c to).2.2) n ad t9.heap) A) (pgX A (fun k => (sp_carry σ c to).1 = k ∧ k ≠ 0) (pgR D cD cC A σ n ad)) 3 18 A := by
  refine pg_enterX (own := RX2) (by decide) rfl (Nat.le_of_ble_eq_true rfl) (fun p e s m below meth cc9 B hr hnm ht => ?_)
  refine j_fact (fun H h => pgR.inA h) (fun hIn => ?_)
  refine j_aload_n B dX2_carry_0 0 rfl rfl ?_
  refine j_iload_n B dX2_carry_1 1 rfl rfl ?_
  refine j_xVr B 1 [.int c] ht (WdC' := pgR D cD cC A σ n ad)  (c_X2_findCrate l hl D cD cC cI cZ cL A σ n ad c) rfl (fun H h => pgR.x h) q_300 q_302 q_p3 q_1 q_303 hdX2_findCrate rfl ⟨Nat.le_of_ble_eq_true rfl, Nat.le_of_ble_eq_true rfl⟩ (Nat.le_of_ble_eq_true rfl) dX2_carry_2 rfl ⟨Nat.le_of_ble_eq_true rfl, Nat.le_of_ble_eq_true rfl⟩ (Nat.le_of_ble_eq_true rfl) (Nat.le_of_ble_eq_true rfl) (fun k h => by obtain ⟨rfl, h9⟩ := h; simp only [sp_carry]; grind) (fun H h => h) (fun r1 hp2 => ?_)
  obtain ⟨rfl, hD3⟩ := hp2
  have hj4 := (pgIsC.at hD3).1
  refine j_astore_n B (L' := [(3, .ref (ad (3 + ix c))), (0, .ref (ad 0)), (1, .int c), (2, .int to)]) dX2_carry_5 rfl (by decide) rfl ?_
  refine j_iload_n B dX2_carry_6 3 rfl rfl ?_
  refine j_xSv B 1 [.int to] ht (S := Unit) (WdC' := fun _ => pgR D cD cC A σ n ad)  (c_X2_requireKeeper l hl D cD cC cI cZ cL A σ n ad to) q_83 q_84 q_1 q_85 hdX2_requireKeeper rfl ⟨Nat.le_of_ble_eq_true rfl, Nat.le_of_ble_eq_true rfl⟩ (Nat.le_of_ble_eq_true rfl) dX2_carry_7 rfl ⟨Nat.le_of_ble_eq_true rfl, Nat.le_of_ble_eq_true rfl⟩ (Nat.le_of_ble_eq_true rfl) (Nat.le_of_ble_eq_true rfl) (fun k h => by obtain ⟨rfl, h9⟩ := h; simp only [sp_carry]; grind) (fun H h => h) (fun u5 hp6 => ?_)
  refine j_iload_n B dX2_carry_10 3 rfl rfl ?_
  refine j_aload_n B dX2_carry_11 0 rfl rfl ?_
  refine j_get B (v := .int (σ 10 (ix c))) pgX0 rfl (fun H h => pgR.cr h hj4) 1 (by decide) q_34 rfl rfl dX2_carry_12 ?_
  refine j_icmp_ne B 28 dX2_carry_15 (by decide) (fun h7 => ?_) (fun h7 => ?_)
  · refine j_aload_n B dX2_carry_28 0 rfl rfl ?_
    refine j_cVi B (S := Unit) 0 [] (WdC' := fun _ => pgR D cD cC A σ n ad) (fun _ => pgR D cD cC A σ n ad) (c_X0_isSealed l D cD cC cI cZ cL A σ n ad (ix c) hj4) rfl (fun H h => pgR.cr h hj4) q_329 q_330 q_331 q_2 q_332 hdX0_isSealed rfl ⟨Nat.le_of_ble_eq_true rfl, Nat.le_of_ble_eq_true rfl⟩ (Nat.le_of_ble_eq_true rfl) dX2_carry_29 rfl ⟨Nat.le_of_ble_eq_true rfl, Nat.le_of_ble_eq_true rfl⟩ (fun _ h => h) (fun _ _ _ _ h => h) (fun _ h => h) (fun _ _ _ _ h _ _ => h) (fun r8 _ hp9 => ?_)
    by_cases h10 : ¬ σ 11 (ix c) = -1
    · obtain rfl : r8 = 1 := by rw [hp9]; exact if_pos h10
      refine j_if_ne B 53 dX2_carry_32 (by decide) (fun h11 => ?_) (fun h11 => (absurd h11 (by decide)))
      refine j_aload_n B dX2_carry_53 0 rfl rfl ?_
      refine j_get B (v := .int (σ 10 (ix c))) pgX0 rfl (fun H h => pgR.cr h hj4) 1 (by decide) q_34 rfl rfl dX2_carry_54 ?_
      refine j_istore B (L' := [(4, .int (σ 10 (ix c))), (3, .ref (ad (3 + ix c))), (0, .ref (ad 0)), (1, .int c), (2, .int to)]) dX2_carry_57 (by decide) rfl ?_
      refine j_aload_n B dX2_carry_59 1 rfl rfl ?_
      refine j_iload_n B dX2_carry_60 4 rfl rfl ?_
      refine j_put B (Wd' := pgR D cD cC A (pgU σ 10 (ix c) to) n ad) pgX0 tyX0 tyX0_ok nmX0 rfl (fun H h => pgR.cr h hj4) 1 (by decide) q_34 rfl rfl rfl rfl rfl (Nat.le_of_ble_eq_true rfl) dX2_carry_61 (hIn (3 + ix c) (by omega)) (fun H H1 h hc hz ho => pgR.putK h hj4 (by decide) pgKs1 hc ho) ?_
      refine j_aload_n B dX2_carry_64 2 rfl rfl ?_
      refine j_aload_n B dX2_carry_65 1 rfl rfl ?_
      refine j_cVv B (S := Unit) 1 [.ref (ad (3 + ix c))] (WdC' := fun _ => pgR D cD cC A (pgHoN (pgU σ 10 (ix c) to) (nI (ix c)) ((pgU σ 10 (ix c) to) 10 (ix c)) n) n ad) (fun _ => pgR D cD cC A (pgHoN (pgU σ 10 (ix c) to) (nI (ix c)) ((pgU σ 10 (ix c) to) 10 (ix c)) n) n ad) (c_X2_handOverDisksIn l D cD cC cI cZ cL A (pgU σ 10 (ix c) to) n ad (ix c) hj4 hI.1 (pgCr_ne (by decide) hI.2.2.1)) rfl (fun H h => pgR.x h) q_400 q_402 q_p5 q_1 q_403 hdX2_handOverDisksIn rfl ⟨Nat.le_of_ble_eq_true rfl, Nat.le_of_ble_eq_true rfl⟩ (Nat.le_of_ble_eq_true rfl) dX2_carry_66 rfl ⟨Nat.le_of_ble_eq_true rfl, Nat.le_of_ble_eq_true rfl⟩ (fun _ h => h) (fun _ _ _ _ h => h) (fun _ h => h) (fun _ _ _ _ h _ _ => h) (fun _ _ => ?_)
      refine j_iload B dX2_carry_69 0 rfl ?_
      have hn7 : ix (σ 13 0) = n := pgI_n hI
      have hc7 : nI (ix c) = c := (pgIsC.at (by assumption)).2.symm
      have e9 : sp_carry σ c to = (0, σ 10 (ix c), pgHoN (pgU σ 10 (ix c) to) (nI (ix c)) ((pgU σ 10 (ix c) to) 10 (ix c)) n) := by
        simp only [sp_carry, hn7, hc7, pgU_self]; grind
      exact j_x (j_iret B hr rfl dX2_carry_71 (Nat.le_of_ble_eq_true rfl) (Nat.le_of_ble_eq_true rfl) () ⟨by rw [e9], by rw [e9]⟩ (fun H h => pgR.eq h (by rw [e9])))
    · obtain rfl : r8 = 0 := by rw [hp9]; exact if_neg h10
      refine j_if_ne B 53 dX2_carry_32 (by decide) (fun h12 => (absurd (by decide) h12)) (fun h12 => ?_)
      refine j_aload_n B dX2_carry_35 1 rfl rfl ?_
      refine j_aload_n B dX2_carry_36 0 rfl rfl ?_
      refine j_cVi B (S := Unit) 1 [.ref (ad (3 + ix c))] (WdC' := fun _ => pgR D cD cC A σ n ad) (fun _ => pgR D cD cC A σ n ad) (c_X2_countDisksIn l D cD cC cI cZ cL A σ n ad (ix c) hj4 hI.1 hI.2.2.1) rfl (fun H h => pgR.x h) q_334 q_336 q_p4 q_1 q_337 hdX2_countDisksIn rfl ⟨Nat.le_of_ble_eq_true rfl, Nat.le_of_ble_eq_true rfl⟩ (Nat.le_of_ble_eq_true rfl) dX2_carry_37 rfl ⟨Nat.le_of_ble_eq_true rfl, Nat.le_of_ble_eq_true rfl⟩ (fun _ h => h) (fun _ _ _ _ h => h) (fun _ h => h) (fun _ _ _ _ h _ _ => h) (fun r13 _ hp14 => ?_)
      obtain rfl : r13 = pgCnt σ n (nI (ix c)) := hp14
      refine j_if_le B 53 dX2_carry_40 (by decide) (fun h15 => ?_) (fun h15 => ?_)
      · refine j_aload_n B dX2_carry_53 0 rfl rfl ?_
        refine j_get B (v := .int (σ 10 (ix c))) pgX0 rfl (fun H h => pgR.cr h hj4) 1 (by decide) q_34 rfl rfl dX2_carry_54 ?_
        refine j_istore B (L' := [(4, .int (σ 10 (ix c))), (3, .ref (ad (3 + ix c))), (0, .ref (ad 0)), (1, .int c), (2, .int to)]) dX2_carry_57 (by decide) rfl ?_
        refine j_aload_n B dX2_carry_59 1 rfl rfl ?_
        refine j_iload_n B dX2_carry_60 4 rfl rfl ?_
        refine j_put B (Wd' := pgR D cD cC A (pgU σ 10 (ix c) to) n ad) pgX0 tyX0 tyX0_ok nmX0 rfl (fun H h => pgR.cr h hj4) 1 (by decide) q_34 rfl rfl rfl rfl rfl (Nat.le_of_ble_eq_true rfl) dX2_carry_61 (hIn (3 + ix c) (by omega)) (fun H H1 h hc hz ho => pgR.putK h hj4 (by decide) pgKs1 hc ho) ?_
        refine j_aload_n B dX2_carry_64 2 rfl rfl ?_
        refine j_aload_n B dX2_carry_65 1 rfl rfl ?_
        refine j_cVv B (S := Unit) 1 [.ref (ad (3 + ix c))] (WdC' := fun _ => pgR D cD cC A (pgHoN (pgU σ 10 (ix c) to) (nI (ix c)) ((pgU σ 10 (ix c) to) 10 (ix c)) n) n ad) (fun _ => pgR D cD cC A (pgHoN (pgU σ 10 (ix c) to) (nI (ix c)) ((pgU σ 10 (ix c) to) 10 (ix c)) n) n ad) (c_X2_handOverDisksIn l D cD cC cI cZ cL A (pgU σ 10 (ix c) to) n ad (ix c) hj4 hI.1 (pgCr_ne (by decide) hI.2.2.1)) rfl (fun H h => pgR.x h) q_400 q_402 q_p5 q_1 q_403 hdX2_handOverDisksIn rfl ⟨Nat.le_of_ble_eq_true rfl, Nat.le_of_ble_eq_true rfl⟩ (Nat.le_of_ble_eq_true rfl) dX2_carry_66 rfl ⟨Nat.le_of_ble_eq_true rfl, Nat.le_of_ble_eq_true rfl⟩ (fun _ h => h) (fun _ _ _ _ h => h) (fun _ h => h) (fun _ _ _ _ h _ _ => h) (fun _ _ => ?_)
        refine j_iload B dX2_carry_69 0 rfl ?_
        have hn7 : ix (σ 13 0) = n := pgI_n hI
        have hc7 : nI (ix c) = c := (pgIsC.at (by assumption)).2.symm
        have e9 : sp_carry σ c to = (0, σ 10 (ix c), pgHoN (pgU σ 10 (ix c) to) (nI (ix c)) ((pgU σ 10 (ix c) to) 10 (ix c)) n) := by
          simp only [sp_carry, hn7, hc7, pgU_self]; grind
        exact j_x (j_iret B hr rfl dX2_carry_71 (Nat.le_of_ble_eq_true rfl) (Nat.le_of_ble_eq_true rfl) () ⟨by rw [e9], by rw [e9]⟩ (fun H h => pgR.eq h (by rw [e9])))
      · exact j_throw (k := 3) pgTS pgTS2 pgTS3 rfl q_173 q_8 rfl B hl ht (is := 116) (text := "the crate is open and has disks") (by decide) dX2_carry_43 dX2_carry_46 dX2_carry_47 dX2_carry_49 dX2_carry_52 (Nat.le_of_ble_eq_true rfl) (Nat.le_of_ble_eq_true rfl) (Nat.le_of_ble_eq_true rfl) (Nat.le_of_ble_eq_true rfl) (Nat.le_of_ble_eq_true rfl) (Nat.le_of_ble_eq_true rfl) (by have hn7 := pgI_n hI; have hc7 : nI (ix c) = c := (pgIsC.at (by assumption)).2.symm; simp only [hc7] at *; simp only [sp_carry, hn7]; grind) (fun H H1 h hq => pgR.more h hq)
  · exact j_throw (k := 2) pgTA pgTA2 pgTA3 rfl q_157 q_7 rfl B hl ht (is := 114) (text := "the crate is carried to its keeper") (by decide) dX2_carry_18 dX2_carry_21 dX2_carry_22 dX2_carry_24 dX2_carry_27 (Nat.le_of_ble_eq_true rfl) (Nat.le_of_ble_eq_true rfl) (Nat.le_of_ble_eq_true rfl) (Nat.le_of_ble_eq_true rfl) (Nat.le_of_ble_eq_true rfl) (Nat.le_of_ble_eq_true rfl) (by have hn7 := pgI_n hI; have hc7 : nI (ix c) = c := (pgIsC.at (by assumption)).2.symm; simp only [hc7] at *; simp only [sp_carry, hn7]; grind) (fun H H1 h hq => pgR.more h hq)
set_option maxHeartbeats 4000000 in
set_option maxRecDepth 100000 in
/-- wipe -/
theorem c_X2_wipe (l : Launch) (hl : l.stackTraces = false) (D : va_G) (cD cC cI cZ cL : ClassId) (A : Nat → Prop) (σ : pgSt) (n : Nat) (ad : Nat → Nat) (hI : pgI n σ) (d : Int32) (way : Int32) (w : Int32) : vx_Met l yX2_wipe (.code yX2_wipe cX2_wipe 6 (some .int) :: pgWd) ({ frames := 7, cells := 5, slots := 30, locals := 104 } : Room) (pgPc D (pgTys cD cC cI cZ cL) A (pgR D cD cC A σ n ad) [.ref (ad 0), .int d, .int way, .int w]) (va_Qi (fun (r : Int32) (_ : Unit) => (sp_wipe σ d way w).1 = 0 ∧ r = (sp_wipe σ d way w).2.1) (fun _ t9 => pgR D cD cC A ((sp_wipe σ d way w).2.2) n ad t9.heap) A) (pgX A (fun k => (sp_wipe σ d way w).1 = k ∧ k ≠ 0) (pgR D cD cC A σ n ad)) 5 30 A := by
  refine pg_enterX (own := RX2) (by decide) rfl (Nat.le_of_ble_eq_true rfl) (fun p e s m below meth cc9 B hr hnm ht => ?_)
  refine j_fact (fun H h => pgR.inA h) (fun hIn => ?_)
  refine j_aload_n B dX2_wipe_0 0 rfl rfl ?_
  refine j_iload_n B dX2_wipe_1 1 rfl rfl ?_
  refine j_xVr B 1 [.int d] ht (WdC' := pgR D cD cC A σ n ad)  (c_X2_findDisk l hl D cD cC cI cZ cL A σ n ad hI d) rfl (fun H h => pgR.x h) q_245 q_247 q_p2 q_1 q_248 hdX2_findDisk rfl ⟨Nat.le_of_ble_eq_true rfl, Nat.le_of_ble_eq_true rfl⟩ (Nat.le_of_ble_eq_true rfl) dX2_wipe_2 rfl ⟨Nat.le_of_ble_eq_true rfl, Nat.le_of_ble_eq_true rfl⟩ (Nat.le_of_ble_eq_true rfl) (Nat.le_of_ble_eq_true rfl) (fun k h => by obtain ⟨rfl, h9⟩ := h; simp only [sp_wipe]; grind) (fun H h => h) (fun r1 hp2 => ?_)
  obtain ⟨rfl, hD3⟩ := hp2
  have hj4 := (pgIsD.at hI hD3).1
  refine j_astore B (L' := [(4, .ref (ad (13 + ix d))), (0, .ref (ad 0)), (1, .int d), (2, .int way), (3, .int w)]) dX2_wipe_5 (by decide) rfl ?_
  refine j_iload_n B dX2_wipe_7 4 rfl rfl ?_
  refine j_xSv B 1 [.int w] ht (S := Unit) (WdC' := fun _ => pgR D cD cC A σ n ad)  (c_X2_requireKeeper l hl D cD cC cI cZ cL A σ n ad w) q_83 q_84 q_1 q_85 hdX2_requireKeeper rfl ⟨Nat.le_of_ble_eq_true rfl, Nat.le_of_ble_eq_true rfl⟩ (Nat.le_of_ble_eq_true rfl) dX2_wipe_8 rfl ⟨Nat.le_of_ble_eq_true rfl, Nat.le_of_ble_eq_true rfl⟩ (Nat.le_of_ble_eq_true rfl) (Nat.le_of_ble_eq_true rfl) (fun k h => by obtain ⟨rfl, h9⟩ := h; simp only [sp_wipe]; grind) (fun H h => h) (fun u5 hp6 => ?_)
  refine j_iload_n B dX2_wipe_11 3 rfl rfl ?_
  refine j_if_lt B 20 dX2_wipe_12 (by decide) (fun h7 => ?_) (fun h7 => ?_)
  · exact j_throw (k := 2) pgTA pgTA2 pgTA3 rfl q_157 q_7 rfl B hl ht (is := 122) (text := "there is no such way") (by decide) dX2_wipe_20 dX2_wipe_23 dX2_wipe_24 dX2_wipe_26 dX2_wipe_29 (Nat.le_of_ble_eq_true rfl) (Nat.le_of_ble_eq_true rfl) (Nat.le_of_ble_eq_true rfl) (Nat.le_of_ble_eq_true rfl) (Nat.le_of_ble_eq_true rfl) (Nat.le_of_ble_eq_true rfl) (by simp only [sp_wipe]; grind) (fun H H1 h hq => pgR.more h hq)
  · refine j_iload_n B dX2_wipe_15 3 rfl rfl ?_
    refine j_iconst B (v := 3) dX2_wipe_16 (by decide) ?_
    refine j_icmp_lt B 30 dX2_wipe_17 (by decide) (fun h8 => ?_) (fun h8 => ?_)
    · refine j_aload B dX2_wipe_30 0 rfl ?_
      refine j_iload_n B dX2_wipe_32 4 rfl rfl ?_
      refine j_xSv B 2 [.ref (ad (13 + ix d)), .int w] ht (S := Unit) (WdC' := fun _ => pgR D cD cC A σ n ad)  (c_X2_requireWitnessIsNotKeeper l hl D cD cC cI cZ cL A σ n ad (ix d) hj4 w) q_348 q_349 q_1 q_350 hdX2_requireWitnessIsNotKeeper rfl ⟨Nat.le_of_ble_eq_true rfl, Nat.le_of_ble_eq_true rfl⟩ (Nat.le_of_ble_eq_true rfl) dX2_wipe_33 rfl ⟨Nat.le_of_ble_eq_true rfl, Nat.le_of_ble_eq_true rfl⟩ (Nat.le_of_ble_eq_true rfl) (Nat.le_of_ble_eq_true rfl) (fun k h => by obtain ⟨rfl, h9⟩ := h; simp only [sp_wipe]; grind) (fun H h => h) (fun u9 hp10 => ?_)
      refine j_aload B dX2_wipe_36 0 rfl ?_
      refine j_xSv B 1 [.ref (ad (13 + ix d))] ht (S := Unit) (WdC' := fun _ => pgR D cD cC A σ n ad)  (c_X2_requireWithinReach l hl D cD cC cI cZ cL A σ n ad (ix d) hj4 hI.2.2.1) q_352 q_353 q_1 q_354 hdX2_requireWithinReach rfl ⟨Nat.le_of_ble_eq_true rfl, Nat.le_of_ble_eq_true rfl⟩ (Nat.le_of_ble_eq_true rfl) dX2_wipe_38 rfl ⟨Nat.le_of_ble_eq_true rfl, Nat.le_of_ble_eq_true rfl⟩ (Nat.le_of_ble_eq_true rfl) (Nat.le_of_ble_eq_true rfl) (fun k h => by obtain ⟨rfl, h9⟩ := h; simp only [sp_wipe]; grind) (fun H h => h) (fun u11 hp12 => ?_)
      refine j_aload B dX2_wipe_41 0 rfl ?_
      refine j_get B (v := .int (σ 4 (ix d))) pgX1 rfl (fun H h => pgR.dk h hj4) 6 (by decide) q_205 rfl rfl dX2_wipe_43 ?_
      refine j_iconst B (v := 1) dX2_wipe_46 (by decide) ?_
      refine j_icmp_eq B 59 dX2_wipe_47 (by decide) (fun h13 => ?_) (fun h13 => ?_)
      · exact j_throw (k := 3) pgTS pgTS2 pgTS3 rfl q_173 q_8 rfl B hl ht (is := 133) (text := "the disk is wiped or broken") (by decide) dX2_wipe_59 dX2_wipe_62 dX2_wipe_63 dX2_wipe_65 dX2_wipe_68 (Nat.le_of_ble_eq_true rfl) (Nat.le_of_ble_eq_true rfl) (Nat.le_of_ble_eq_true rfl) (Nat.le_of_ble_eq_true rfl) (Nat.le_of_ble_eq_true rfl) (Nat.le_of_ble_eq_true rfl) (by simp only [sp_wipe]; grind) (fun H H1 h hq => pgR.more h hq)
      · refine j_aload B dX2_wipe_50 0 rfl ?_
        refine j_get B (v := .int (σ 4 (ix d))) pgX1 rfl (fun H h => pgR.dk h hj4) 6 (by decide) q_205 rfl rfl dX2_wipe_52 ?_
        refine j_iconst B (v := 3) dX2_wipe_55 (by decide) ?_
        refine j_icmp_ne B 69 dX2_wipe_56 (by decide) (fun h14 => ?_) (fun h14 => ?_)
        · refine j_iload_n B dX2_wipe_69 3 rfl rfl ?_
          refine j_aload B dX2_wipe_70 0 rfl ?_
          refine j_get B (v := .int (σ 0 (ix d))) pgX1 rfl (fun H h => pgR.dk h hj4) 0 (by decide) q_195 rfl rfl dX2_wipe_72 ?_
          refine j_icmp_ne B 91 dX2_wipe_75 (by decide) (fun h15 => ?_) (fun h15 => ?_)
          · refine j_iconst B (v := 0) dX2_wipe_91 (by decide) ?_
            refine j_istore B (L' := [(5, .int 0), (4, .ref (ad (13 + ix d))), (0, .ref (ad 0)), (1, .int d), (2, .int way), (3, .int w)]) dX2_wipe_92 (by decide) rfl ?_
            refine j_aload B dX2_wipe_94 1 rfl ?_
            refine j_iload B dX2_wipe_96 0 rfl ?_
            refine j_if_eq B 105 dX2_wipe_98 (by decide) (fun h16 => ?_) (fun h16 => (absurd (by decide) h16))
            refine j_iconst B (v := 2) dX2_wipe_105 (by decide) ?_
            refine j_put B (Wd' := pgR D cD cC A (pgU σ 4 (ix d) 2) n ad) pgX1 tyX1 tyX1_ok nmX1 rfl (fun H h => pgR.dk h hj4) 6 (by decide) q_205 rfl rfl rfl rfl rfl (Nat.le_of_ble_eq_true rfl) dX2_wipe_106 (hIn (13 + ix d) (by omega)) (fun H H1 h hc hz ho => pgR.putD h hj4 (by decide) pgDs6 hc ho) ?_
            refine j_aload B dX2_wipe_109 1 rfl ?_
            refine j_aload B dX2_wipe_111 1 rfl ?_
            refine j_get B (v := .int (σ 2 (ix d))) pgX1 rfl (fun H h => pgR.dk h hj4) 2 (by decide) q_198 rfl rfl dX2_wipe_113 ?_
            refine j_put B (Wd' := pgR D cD cC A (pgU (pgU σ 4 (ix d) 2) 7 (ix d) (σ 2 (ix d))) n ad) pgX1 tyX1 tyX1_ok nmX1 rfl (fun H h => pgR.dk h hj4) 7 (by decide) q_207 rfl rfl rfl rfl rfl (Nat.le_of_ble_eq_true rfl) dX2_wipe_116 (hIn (13 + ix d) (by omega)) (fun H H1 h hc hz ho => pgR.putD h hj4 (by decide) pgDs7 hc ho) ?_
            refine j_aload B dX2_wipe_119 1 rfl ?_
            refine j_iconst B (v := 0) dX2_wipe_121 (by decide) ?_
            refine j_put B (Wd' := pgR D cD cC A (pgU (pgU (pgU σ 4 (ix d) 2) 7 (ix d) (σ 2 (ix d))) 8 (ix d) 0) n ad) pgX1 tyX1 tyX1_ok nmX1 rfl (fun H h => pgR.dk h hj4) 8 (by decide) q_209 rfl rfl rfl rfl rfl (Nat.le_of_ble_eq_true rfl) dX2_wipe_122 (hIn (13 + ix d) (by omega)) (fun H H1 h hc hz ho => pgR.putD h hj4 (by decide) pgDs8 hc ho) ?_
            refine j_aload B dX2_wipe_125 1 rfl ?_
            refine j_get B (v := .int 2) pgX1 rfl (fun H h => pgR.dk h hj4) 6 (by decide) q_205 rfl (by simp [pgU]) dX2_wipe_127 ?_
            have e9 : sp_wipe σ d way w = (0, 2, pgU (pgU (pgU σ 4 (ix d) 2) 7 (ix d) (σ 2 (ix d))) 8 (ix d) 0) := by
              simp only [sp_wipe, pgU_self, pgU_ne (show (4 : Nat) ≠ 7 by decide), pgU_ne (show (4 : Nat) ≠ 8 by decide)]; grind
            exact j_x (j_iret B hr rfl dX2_wipe_130 (Nat.le_of_ble_eq_true rfl) (Nat.le_of_ble_eq_true rfl) () ⟨by rw [e9], by rw [e9]⟩ (fun H h => pgR.eq h (by rw [e9])))
          · refine j_aload B dX2_wipe_78 0 rfl ?_
            refine j_get B (v := .int (σ 1 (ix d))) pgX1 rfl (fun H h => pgR.dk h hj4) 1 (by decide) q_197 rfl rfl dX2_wipe_80 ?_
            refine j_iconst B (v := 3) dX2_wipe_83 (by decide) ?_
            refine j_icmp_ge B 91 dX2_wipe_84 (by decide) (fun h17 => ?_) (fun h17 => ?_)
            · refine j_iconst B (v := 0) dX2_wipe_91 (by decide) ?_
              refine j_istore B (L' := [(5, .int 0), (4, .ref (ad (13 + ix d))), (0, .ref (ad 0)), (1, .int d), (2, .int way), (3, .int w)]) dX2_wipe_92 (by decide) rfl ?_
              refine j_aload B dX2_wipe_94 1 rfl ?_
              refine j_iload B dX2_wipe_96 0 rfl ?_
              refine j_if_eq B 105 dX2_wipe_98 (by decide) (fun h18 => ?_) (fun h18 => (absurd (by decide) h18))
              refine j_iconst B (v := 2) dX2_wipe_105 (by decide) ?_
              refine j_put B (Wd' := pgR D cD cC A (pgU σ 4 (ix d) 2) n ad) pgX1 tyX1 tyX1_ok nmX1 rfl (fun H h => pgR.dk h hj4) 6 (by decide) q_205 rfl rfl rfl rfl rfl (Nat.le_of_ble_eq_true rfl) dX2_wipe_106 (hIn (13 + ix d) (by omega)) (fun H H1 h hc hz ho => pgR.putD h hj4 (by decide) pgDs6 hc ho) ?_
              refine j_aload B dX2_wipe_109 1 rfl ?_
              refine j_aload B dX2_wipe_111 1 rfl ?_
              refine j_get B (v := .int (σ 2 (ix d))) pgX1 rfl (fun H h => pgR.dk h hj4) 2 (by decide) q_198 rfl rfl dX2_wipe_113 ?_
              refine j_put B (Wd' := pgR D cD cC A (pgU (pgU σ 4 (ix d) 2) 7 (ix d) (σ 2 (ix d))) n ad) pgX1 tyX1 tyX1_ok nmX1 rfl (fun H h => pgR.dk h hj4) 7 (by decide) q_207 rfl rfl rfl rfl rfl (Nat.le_of_ble_eq_true rfl) dX2_wipe_116 (hIn (13 + ix d) (by omega)) (fun H H1 h hc hz ho => pgR.putD h hj4 (by decide) pgDs7 hc ho) ?_
              refine j_aload B dX2_wipe_119 1 rfl ?_
              refine j_iconst B (v := 0) dX2_wipe_121 (by decide) ?_
              refine j_put B (Wd' := pgR D cD cC A (pgU (pgU (pgU σ 4 (ix d) 2) 7 (ix d) (σ 2 (ix d))) 8 (ix d) 0) n ad) pgX1 tyX1 tyX1_ok nmX1 rfl (fun H h => pgR.dk h hj4) 8 (by decide) q_209 rfl rfl rfl rfl rfl (Nat.le_of_ble_eq_true rfl) dX2_wipe_122 (hIn (13 + ix d) (by omega)) (fun H H1 h hc hz ho => pgR.putD h hj4 (by decide) pgDs8 hc ho) ?_
              refine j_aload B dX2_wipe_125 1 rfl ?_
              refine j_get B (v := .int 2) pgX1 rfl (fun H h => pgR.dk h hj4) 6 (by decide) q_205 rfl (by simp [pgU]) dX2_wipe_127 ?_
              have e9 : sp_wipe σ d way w = (0, 2, pgU (pgU (pgU σ 4 (ix d) 2) 7 (ix d) (σ 2 (ix d))) 8 (ix d) 0) := by
                simp only [sp_wipe, pgU_self, pgU_ne (show (4 : Nat) ≠ 7 by decide), pgU_ne (show (4 : Nat) ≠ 8 by decide)]; grind
              exact j_x (j_iret B hr rfl dX2_wipe_130 (Nat.le_of_ble_eq_true rfl) (Nat.le_of_ble_eq_true rfl) () ⟨by rw [e9], by rw [e9]⟩ (fun H h => pgR.eq h (by rw [e9])))
            · refine j_iconst B (v := 1) dX2_wipe_87 (by decide) ?_
              refine j_goto B 92 dX2_wipe_88 (by decide) ?_
              refine j_istore B (L' := [(5, .int 1), (4, .ref (ad (13 + ix d))), (0, .ref (ad 0)), (1, .int d), (2, .int way), (3, .int w)]) dX2_wipe_92 (by decide) rfl ?_
              refine j_aload B dX2_wipe_94 1 rfl ?_
              refine j_iload B dX2_wipe_96 0 rfl ?_
              refine j_if_eq B 105 dX2_wipe_98 (by decide) (fun h19 => (absurd h19 (by decide))) (fun h19 => ?_)
              refine j_iconst B (v := 1) dX2_wipe_101 (by decide) ?_
              refine j_goto B 106 dX2_wipe_102 (by decide) ?_
              refine j_put B (Wd' := pgR D cD cC A (pgU σ 4 (ix d) 1) n ad) pgX1 tyX1 tyX1_ok nmX1 rfl (fun H h => pgR.dk h hj4) 6 (by decide) q_205 rfl rfl rfl rfl rfl (Nat.le_of_ble_eq_true rfl) dX2_wipe_106 (hIn (13 + ix d) (by omega)) (fun H H1 h hc hz ho => pgR.putD h hj4 (by decide) pgDs6 hc ho) ?_
              refine j_aload B dX2_wipe_109 1 rfl ?_
              refine j_aload B dX2_wipe_111 1 rfl ?_
              refine j_get B (v := .int (σ 2 (ix d))) pgX1 rfl (fun H h => pgR.dk h hj4) 2 (by decide) q_198 rfl rfl dX2_wipe_113 ?_
              refine j_put B (Wd' := pgR D cD cC A (pgU (pgU σ 4 (ix d) 1) 7 (ix d) (σ 2 (ix d))) n ad) pgX1 tyX1 tyX1_ok nmX1 rfl (fun H h => pgR.dk h hj4) 7 (by decide) q_207 rfl rfl rfl rfl rfl (Nat.le_of_ble_eq_true rfl) dX2_wipe_116 (hIn (13 + ix d) (by omega)) (fun H H1 h hc hz ho => pgR.putD h hj4 (by decide) pgDs7 hc ho) ?_
              refine j_aload B dX2_wipe_119 1 rfl ?_
              refine j_iconst B (v := 0) dX2_wipe_121 (by decide) ?_
              refine j_put B (Wd' := pgR D cD cC A (pgU (pgU (pgU σ 4 (ix d) 1) 7 (ix d) (σ 2 (ix d))) 8 (ix d) 0) n ad) pgX1 tyX1 tyX1_ok nmX1 rfl (fun H h => pgR.dk h hj4) 8 (by decide) q_209 rfl rfl rfl rfl rfl (Nat.le_of_ble_eq_true rfl) dX2_wipe_122 (hIn (13 + ix d) (by omega)) (fun H H1 h hc hz ho => pgR.putD h hj4 (by decide) pgDs8 hc ho) ?_
              refine j_aload B dX2_wipe_125 1 rfl ?_
              refine j_get B (v := .int 1) pgX1 rfl (fun H h => pgR.dk h hj4) 6 (by decide) q_205 rfl (by simp [pgU]) dX2_wipe_127 ?_
              have e9 : sp_wipe σ d way w = (0, 1, pgU (pgU (pgU σ 4 (ix d) 1) 7 (ix d) (σ 2 (ix d))) 8 (ix d) 0) := by
                simp only [sp_wipe, pgU_self, pgU_ne (show (4 : Nat) ≠ 7 by decide), pgU_ne (show (4 : Nat) ≠ 8 by decide)]; grind
              exact j_x (j_iret B hr rfl dX2_wipe_130 (Nat.le_of_ble_eq_true rfl) (Nat.le_of_ble_eq_true rfl) () ⟨by rw [e9], by rw [e9]⟩ (fun H h => pgR.eq h (by rw [e9])))
        · exact j_throw (k := 3) pgTS pgTS2 pgTS3 rfl q_173 q_8 rfl B hl ht (is := 133) (text := "the disk is wiped or broken") (by decide) dX2_wipe_59 dX2_wipe_62 dX2_wipe_63 dX2_wipe_65 dX2_wipe_68 (Nat.le_of_ble_eq_true rfl) (Nat.le_of_ble_eq_true rfl) (Nat.le_of_ble_eq_true rfl) (Nat.le_of_ble_eq_true rfl) (Nat.le_of_ble_eq_true rfl) (Nat.le_of_ble_eq_true rfl) (by simp only [sp_wipe]; grind) (fun H H1 h hq => pgR.more h hq)
    · exact j_throw (k := 2) pgTA pgTA2 pgTA3 rfl q_157 q_7 rfl B hl ht (is := 122) (text := "there is no such way") (by decide) dX2_wipe_20 dX2_wipe_23 dX2_wipe_24 dX2_wipe_26 dX2_wipe_29 (Nat.le_of_ble_eq_true rfl) (Nat.le_of_ble_eq_true rfl) (Nat.le_of_ble_eq_true rfl) (Nat.le_of_ble_eq_true rfl) (Nat.le_of_ble_eq_true rfl) (Nat.le_of_ble_eq_true rfl) (by simp only [sp_wipe]; grind) (fun H H1 h hq => pgR.more h hq)
set_option maxHeartbeats 4000000 in
set_option maxRecDepth 100000 in
/-- smash -/
theorem c_X2_smash (l : Launch) (hl : l.stackTraces = false) (D : va_G) (cD cC cI cZ cL : ClassId) (A : Nat → Prop) (σ : pgSt) (n : Nat) (ad : Nat → Nat) (hI : pgI n σ) (d : Int32) (w : Int32) : vx_Met l yX2_smash (.code yX2_smash cX2_smash 5 (some .int) :: pgWd) ({ frames := 7, cells := 5, slots := 30, locals := 104 } : Room) (pgPc D (pgTys cD cC cI cZ cL) A (pgR D cD cC A σ n ad) [.ref (ad 0), .int d, .int w]) (va_Qi (fun (r : Int32) (_ : Unit) => (sp_smash σ d w).1 = 0 ∧ r = (sp_smash σ d w).2.1) (fun _ t9 => pgR D cD cC A ((sp_smash σ d w).2.2) n ad t9.heap) A) (pgX A (fun k => (sp_smash σ d w).1 = k ∧ k ≠ 0) (pgR D cD cC A σ n ad)) 5 30 A := by
  refine pg_enterX (own := RX2) (by decide) rfl (Nat.le_of_ble_eq_true rfl) (fun p e s m below meth cc9 B hr hnm ht => ?_)
  refine j_fact (fun H h => pgR.inA h) (fun hIn => ?_)
  refine j_aload_n B dX2_smash_0 0 rfl rfl ?_
  refine j_iload_n B dX2_smash_1 1 rfl rfl ?_
  refine j_xVr B 1 [.int d] ht (WdC' := pgR D cD cC A σ n ad)  (c_X2_findDisk l hl D cD cC cI cZ cL A σ n ad hI d) rfl (fun H h => pgR.x h) q_245 q_247 q_p2 q_1 q_248 hdX2_findDisk rfl ⟨Nat.le_of_ble_eq_true rfl, Nat.le_of_ble_eq_true rfl⟩ (Nat.le_of_ble_eq_true rfl) dX2_smash_2 rfl ⟨Nat.le_of_ble_eq_true rfl, Nat.le_of_ble_eq_true rfl⟩ (Nat.le_of_ble_eq_true rfl) (Nat.le_of_ble_eq_true rfl) (fun k h => by obtain ⟨rfl, h9⟩ := h; simp only [sp_smash]; grind) (fun H h => h) (fun r1 hp2 => ?_)
  obtain ⟨rfl, hD3⟩ := hp2
  have hj4 := (pgIsD.at hI hD3).1
  refine j_astore_n B (L' := [(3, .ref (ad (13 + ix d))), (0, .ref (ad 0)), (1, .int d), (2, .int w)]) dX2_smash_5 rfl (by decide) rfl ?_
  refine j_iload_n B dX2_smash_6 3 rfl rfl ?_
  refine j_xSv B 1 [.int w] ht (S := Unit) (WdC' := fun _ => pgR D cD cC A σ n ad)  (c_X2_requireKeeper l hl D cD cC cI cZ cL A σ n ad w) q_83 q_84 q_1 q_85 hdX2_requireKeeper rfl ⟨Nat.le_of_ble_eq_true rfl, Nat.le_of_ble_eq_true rfl⟩ (Nat.le_of_ble_eq_true rfl) dX2_smash_7 rfl ⟨Nat.le_of_ble_eq_true rfl, Nat.le_of_ble_eq_true rfl⟩ (Nat.le_of_ble_eq_true rfl) (Nat.le_of_ble_eq_true rfl) (fun k h => by obtain ⟨rfl, h9⟩ := h; simp only [sp_smash]; grind) (fun H h => h) (fun u5 hp6 => ?_)
  refine j_aload_n B dX2_smash_10 0 rfl rfl ?_
  refine j_iload_n B dX2_smash_11 3 rfl rfl ?_
  refine j_xSv B 2 [.ref (ad (13 + ix d)), .int w] ht (S := Unit) (WdC' := fun _ => pgR D cD cC A σ n ad)  (c_X2_requireWitnessIsNotKeeper l hl D cD cC cI cZ cL A σ n ad (ix d) hj4 w) q_348 q_349 q_1 q_350 hdX2_requireWitnessIsNotKeeper rfl ⟨Nat.le_of_ble_eq_true rfl, Nat.le_of_ble_eq_true rfl⟩ (Nat.le_of_ble_eq_true rfl) dX2_smash_12 rfl ⟨Nat.le_of_ble_eq_true rfl, Nat.le_of_ble_eq_true rfl⟩ (Nat.le_of_ble_eq_true rfl) (Nat.le_of_ble_eq_true rfl) (fun k h => by obtain ⟨rfl, h9⟩ := h; simp only [sp_smash]; grind) (fun H h => h) (fun u7 hp8 => ?_)
  refine j_aload_n B dX2_smash_15 0 rfl rfl ?_
  refine j_xSv B 1 [.ref (ad (13 + ix d))] ht (S := Unit) (WdC' := fun _ => pgR D cD cC A σ n ad)  (c_X2_requireWithinReach l hl D cD cC cI cZ cL A σ n ad (ix d) hj4 hI.2.2.1) q_352 q_353 q_1 q_354 hdX2_requireWithinReach rfl ⟨Nat.le_of_ble_eq_true rfl, Nat.le_of_ble_eq_true rfl⟩ (Nat.le_of_ble_eq_true rfl) dX2_smash_16 rfl ⟨Nat.le_of_ble_eq_true rfl, Nat.le_of_ble_eq_true rfl⟩ (Nat.le_of_ble_eq_true rfl) (Nat.le_of_ble_eq_true rfl) (fun k h => by obtain ⟨rfl, h9⟩ := h; simp only [sp_smash]; grind) (fun H h => h) (fun u9 hp10 => ?_)
  refine j_aload_n B dX2_smash_19 0 rfl rfl ?_
  refine j_get B (v := .int (σ 4 (ix d))) pgX1 rfl (fun H h => pgR.dk h hj4) 6 (by decide) q_205 rfl rfl dX2_smash_20 ?_
  refine j_iconst B (v := 3) dX2_smash_23 (by decide) ?_
  refine j_icmp_ne B 37 dX2_smash_24 (by decide) (fun h11 => ?_) (fun h11 => ?_)
  · refine j_aload_n B dX2_smash_37 0 rfl rfl ?_
    refine j_get B (v := .int (σ 4 (ix d))) pgX1 rfl (fun H h => pgR.dk h hj4) 6 (by decide) q_205 rfl rfl dX2_smash_38 ?_
    refine j_istore B (L' := [(4, .int (σ 4 (ix d))), (3, .ref (ad (13 + ix d))), (0, .ref (ad 0)), (1, .int d), (2, .int w)]) dX2_smash_41 (by decide) rfl ?_
    refine j_aload_n B dX2_smash_43 1 rfl rfl ?_
    refine j_iconst B (v := 3) dX2_smash_44 (by decide) ?_
    refine j_put B (Wd' := pgR D cD cC A (pgU σ 4 (ix d) 3) n ad) pgX1 tyX1 tyX1_ok nmX1 rfl (fun H h => pgR.dk h hj4) 6 (by decide) q_205 rfl rfl rfl rfl rfl (Nat.le_of_ble_eq_true rfl) dX2_smash_45 (hIn (13 + ix d) (by omega)) (fun H H1 h hc hz ho => pgR.putD h hj4 (by decide) pgDs6 hc ho) ?_
    refine j_iload B dX2_smash_48 0 rfl ?_
    have e9 : sp_smash σ d w = (0, σ 4 (ix d), pgU σ 4 (ix d) 3) := by
      simp only [sp_smash]; grind
    exact j_x (j_iret B hr rfl dX2_smash_50 (Nat.le_of_ble_eq_true rfl) (Nat.le_of_ble_eq_true rfl) () ⟨by rw [e9], by rw [e9]⟩ (fun H h => pgR.eq h (by rw [e9])))
  · exact j_throw (k := 3) pgTS pgTS2 pgTS3 rfl q_173 q_8 rfl B hl ht (is := 147) (text := "the disk is broken") (by decide) dX2_smash_27 dX2_smash_30 dX2_smash_31 dX2_smash_33 dX2_smash_36 (Nat.le_of_ble_eq_true rfl) (Nat.le_of_ble_eq_true rfl) (Nat.le_of_ble_eq_true rfl) (Nat.le_of_ble_eq_true rfl) (Nat.le_of_ble_eq_true rfl) (Nat.le_of_ble_eq_true rfl) (by simp only [sp_smash]; grind) (fun H H1 h hq => pgR.more h hq)
set_option maxHeartbeats 4000000 in
set_option maxRecDepth 100000 in
/-- check -/
theorem c_X2_check (l : Launch) (hl : l.stackTraces = false) (D : va_G) (cD cC cI cZ cL : ClassId) (A : Nat → Prop) (σ : pgSt) (n : Nat) (ad : Nat → Nat) (hI : pgI n σ) (d : Int32) (w : Int32) (g : Int32) (hg : g = 0 ∨ g = 1) : vx_Met l yX2_check (.code yX2_check cX2_check 5 (some .int) :: pgWd) ({ frames := 7, cells := 4, slots := 24, locals := 104 } : Room) (pgPc D (pgTys cD cC cI cZ cL) A (pgR D cD cC A σ n ad) [.ref (ad 0), .int d, .int w, .int g]) (va_Qi (fun (r : Int32) (_ : Unit) => (sp_check σ d w g).1 = 0 ∧ r = (sp_check σ d w g).2.1) (fun _ t9 => pgR D cD cC A ((sp_check σ d w g).2.2) n ad t9.heap) A) (pgX A (fun k => (sp_check σ d w g).1 = k ∧ k ≠ 0) (pgR D cD cC A σ n ad)) 4 24 A := by
  refine pg_enterX (own := RX2) (by decide) rfl (Nat.le_of_ble_eq_true rfl) (fun p e s m below meth cc9 B hr hnm ht => ?_)
  refine j_fact (fun H h => pgR.inA h) (fun hIn => ?_)
  refine j_aload_n B dX2_check_0 0 rfl rfl ?_
  refine j_iload_n B dX2_check_1 1 rfl rfl ?_
  refine j_xVr B 1 [.int d] ht (WdC' := pgR D cD cC A σ n ad)  (c_X2_findDisk l hl D cD cC cI cZ cL A σ n ad hI d) rfl (fun H h => pgR.x h) q_245 q_247 q_p2 q_1 q_248 hdX2_findDisk rfl ⟨Nat.le_of_ble_eq_true rfl, Nat.le_of_ble_eq_true rfl⟩ (Nat.le_of_ble_eq_true rfl) dX2_check_2 rfl ⟨Nat.le_of_ble_eq_true rfl, Nat.le_of_ble_eq_true rfl⟩ (Nat.le_of_ble_eq_true rfl) (Nat.le_of_ble_eq_true rfl) (fun k h => by obtain ⟨rfl, h9⟩ := h; simp only [sp_check]; grind) (fun H h => h) (fun r1 hp2 => ?_)
  obtain ⟨rfl, hD3⟩ := hp2
  have hj4 := (pgIsD.at hI hD3).1
  refine j_astore B (L' := [(4, .ref (ad (13 + ix d))), (0, .ref (ad 0)), (1, .int d), (2, .int w), (3, .int g)]) dX2_check_5 (by decide) rfl ?_
  refine j_iload_n B dX2_check_7 3 rfl rfl ?_
  refine j_xSv B 1 [.int w] ht (S := Unit) (WdC' := fun _ => pgR D cD cC A σ n ad)  (c_X2_requireKeeper l hl D cD cC cI cZ cL A σ n ad w) q_83 q_84 q_1 q_85 hdX2_requireKeeper rfl ⟨Nat.le_of_ble_eq_true rfl, Nat.le_of_ble_eq_true rfl⟩ (Nat.le_of_ble_eq_true rfl) dX2_check_8 rfl ⟨Nat.le_of_ble_eq_true rfl, Nat.le_of_ble_eq_true rfl⟩ (Nat.le_of_ble_eq_true rfl) (Nat.le_of_ble_eq_true rfl) (fun k h => by obtain ⟨rfl, h9⟩ := h; simp only [sp_check]; grind) (fun H h => h) (fun u5 hp6 => ?_)
  refine j_aload B dX2_check_11 0 rfl ?_
  refine j_get B (v := .int (σ 4 (ix d))) pgX1 rfl (fun H h => pgR.dk h hj4) 6 (by decide) q_205 rfl rfl dX2_check_13 ?_
  refine j_iconst B (v := 1) dX2_check_16 (by decide) ?_
  refine j_icmp_ne B 39 dX2_check_17 (by decide) (fun h7 => ?_) (fun h7 => ?_)
  · refine j_aload B dX2_check_39 0 rfl ?_
    refine j_xSv B 1 [.ref (ad (13 + ix d))] ht (S := Unit) (WdC' := fun _ => pgR D cD cC A σ n ad)  (c_X2_requireWithinReach l hl D cD cC cI cZ cL A σ n ad (ix d) hj4 hI.2.2.1) q_352 q_353 q_1 q_354 hdX2_requireWithinReach rfl ⟨Nat.le_of_ble_eq_true rfl, Nat.le_of_ble_eq_true rfl⟩ (Nat.le_of_ble_eq_true rfl) dX2_check_41 rfl ⟨Nat.le_of_ble_eq_true rfl, Nat.le_of_ble_eq_true rfl⟩ (Nat.le_of_ble_eq_true rfl) (Nat.le_of_ble_eq_true rfl) (fun k h => by obtain ⟨rfl, h9⟩ := h; simp only [sp_check]; grind) (fun H h => h) (fun u8 hp9 => ?_)
    refine j_aload B dX2_check_44 0 rfl ?_
    refine j_get B (v := .int (σ 4 (ix d))) pgX1 rfl (fun H h => pgR.dk h hj4) 6 (by decide) q_205 rfl rfl dX2_check_46 ?_
    refine j_iconst B (v := 1) dX2_check_49 (by decide) ?_
    refine j_icmp_eq B 63 dX2_check_50 (by decide) (fun h10 => ?_) (fun h10 => ?_)
    · refine j_aload B dX2_check_63 0 rfl ?_
      refine j_iload_n B dX2_check_65 4 rfl rfl ?_
      refine j_put B (Wd' := pgR D cD cC A (pgU σ 8 (ix d) g) n ad) pgX1 tyX1 tyX1_ok nmX1 rfl (fun H h => pgR.dk h hj4) 8 (by decide) q_209 rfl rfl rfl (by rcases hg with rfl | rfl <;> rfl) (by rcases hg with rfl | rfl <;> rfl) (Nat.le_of_ble_eq_true rfl) dX2_check_66 (hIn (13 + ix d) (by omega)) (fun H H1 h hc hz ho => pgR.putD h hj4 (by decide) pgDs8 hc ho) ?_
      refine j_iload_n B dX2_check_69 4 rfl rfl ?_
      refine j_if_ne B 79 dX2_check_70 (by decide) (fun h11 => ?_) (fun h11 => ?_)
      · refine j_aload B dX2_check_79 0 rfl ?_
        refine j_get B (v := .int (σ 4 (ix d))) pgX1 rfl (fun H h => pgR.dk h hj4) 6 (by decide) q_205 rfl rfl dX2_check_81 ?_
        have e9 : sp_check σ d w g = (0, σ 4 (ix d), pgU σ 8 (ix d) g) := by
          have q9 : σ 4 (ix d) = 1 → pgU (pgU σ 8 (ix d) g) 4 (ix d) 1 = pgU σ 8 (ix d) g := fun z => pgU_same z
          simp only [sp_check, pgU_self]; grind
        exact j_x (j_iret B hr rfl dX2_check_84 (Nat.le_of_ble_eq_true rfl) (Nat.le_of_ble_eq_true rfl) () ⟨by rw [e9], by rw [e9]⟩ (fun H h => pgR.eq h (by rw [e9])))
      · refine j_aload B dX2_check_73 0 rfl ?_
        refine j_iconst B (v := 2) dX2_check_75 (by decide) ?_
        refine j_put B (Wd' := pgR D cD cC A (pgU (pgU σ 8 (ix d) g) 4 (ix d) 2) n ad) pgX1 tyX1 tyX1_ok nmX1 rfl (fun H h => pgR.dk h hj4) 6 (by decide) q_205 rfl rfl rfl rfl rfl (Nat.le_of_ble_eq_true rfl) dX2_check_76 (hIn (13 + ix d) (by omega)) (fun H H1 h hc hz ho => pgR.putD h hj4 (by decide) pgDs6 hc ho) ?_
        refine j_aload B dX2_check_79 0 rfl ?_
        refine j_get B (v := .int 2) pgX1 rfl (fun H h => pgR.dk h hj4) 6 (by decide) q_205 rfl (by simp [pgU]) dX2_check_81 ?_
        have e9 : sp_check σ d w g = (0, 2, pgU (pgU σ 8 (ix d) g) 4 (ix d) 2) := by
          have q9 : σ 4 (ix d) = 1 → pgU (pgU σ 8 (ix d) g) 4 (ix d) 1 = pgU σ 8 (ix d) g := fun z => pgU_same z
          simp only [sp_check, pgU_self]; grind
        exact j_x (j_iret B hr rfl dX2_check_84 (Nat.le_of_ble_eq_true rfl) (Nat.le_of_ble_eq_true rfl) () ⟨by rw [e9], by rw [e9]⟩ (fun H h => pgR.eq h (by rw [e9])))
    · exact j_throw (k := 3) pgTS pgTS2 pgTS3 rfl q_173 q_8 rfl B hl ht (is := 151) (text := "the disk is not wiped") (by decide) dX2_check_53 dX2_check_56 dX2_check_57 dX2_check_59 dX2_check_62 (Nat.le_of_ble_eq_true rfl) (Nat.le_of_ble_eq_true rfl) (Nat.le_of_ble_eq_true rfl) (Nat.le_of_ble_eq_true rfl) (Nat.le_of_ble_eq_true rfl) (Nat.le_of_ble_eq_true rfl) (by simp only [sp_check]; grind) (fun H H1 h hq => pgR.more h hq)
  · refine j_iload_n B dX2_check_20 3 rfl rfl ?_
    refine j_aload B dX2_check_21 0 rfl ?_
    refine j_get B (v := .int (σ 7 (ix d))) pgX1 rfl (fun H h => pgR.dk h hj4) 7 (by decide) q_207 rfl rfl dX2_check_23 ?_
    refine j_icmp_ne B 39 dX2_check_26 (by decide) (fun h12 => ?_) (fun h12 => ?_)
    · refine j_aload B dX2_check_39 0 rfl ?_
      refine j_xSv B 1 [.ref (ad (13 + ix d))] ht (S := Unit) (WdC' := fun _ => pgR D cD cC A σ n ad)  (c_X2_requireWithinReach l hl D cD cC cI cZ cL A σ n ad (ix d) hj4 hI.2.2.1) q_352 q_353 q_1 q_354 hdX2_requireWithinReach rfl ⟨Nat.le_of_ble_eq_true rfl, Nat.le_of_ble_eq_true rfl⟩ (Nat.le_of_ble_eq_true rfl) dX2_check_41 rfl ⟨Nat.le_of_ble_eq_true rfl, Nat.le_of_ble_eq_true rfl⟩ (Nat.le_of_ble_eq_true rfl) (Nat.le_of_ble_eq_true rfl) (fun k h => by obtain ⟨rfl, h9⟩ := h; simp only [sp_check]; grind) (fun H h => h) (fun u13 hp14 => ?_)
      refine j_aload B dX2_check_44 0 rfl ?_
      refine j_get B (v := .int (σ 4 (ix d))) pgX1 rfl (fun H h => pgR.dk h hj4) 6 (by decide) q_205 rfl rfl dX2_check_46 ?_
      refine j_iconst B (v := 1) dX2_check_49 (by decide) ?_
      refine j_icmp_eq B 63 dX2_check_50 (by decide) (fun h15 => ?_) (fun h15 => ?_)
      · refine j_aload B dX2_check_63 0 rfl ?_
        refine j_iload_n B dX2_check_65 4 rfl rfl ?_
        refine j_put B (Wd' := pgR D cD cC A (pgU σ 8 (ix d) g) n ad) pgX1 tyX1 tyX1_ok nmX1 rfl (fun H h => pgR.dk h hj4) 8 (by decide) q_209 rfl rfl rfl (by rcases hg with rfl | rfl <;> rfl) (by rcases hg with rfl | rfl <;> rfl) (Nat.le_of_ble_eq_true rfl) dX2_check_66 (hIn (13 + ix d) (by omega)) (fun H H1 h hc hz ho => pgR.putD h hj4 (by decide) pgDs8 hc ho) ?_
        refine j_iload_n B dX2_check_69 4 rfl rfl ?_
        refine j_if_ne B 79 dX2_check_70 (by decide) (fun h16 => ?_) (fun h16 => ?_)
        · refine j_aload B dX2_check_79 0 rfl ?_
          refine j_get B (v := .int (σ 4 (ix d))) pgX1 rfl (fun H h => pgR.dk h hj4) 6 (by decide) q_205 rfl rfl dX2_check_81 ?_
          have e9 : sp_check σ d w g = (0, σ 4 (ix d), pgU σ 8 (ix d) g) := by
            have q9 : σ 4 (ix d) = 1 → pgU (pgU σ 8 (ix d) g) 4 (ix d) 1 = pgU σ 8 (ix d) g := fun z => pgU_same z
            simp only [sp_check, pgU_self]; grind
          exact j_x (j_iret B hr rfl dX2_check_84 (Nat.le_of_ble_eq_true rfl) (Nat.le_of_ble_eq_true rfl) () ⟨by rw [e9], by rw [e9]⟩ (fun H h => pgR.eq h (by rw [e9])))
        · refine j_aload B dX2_check_73 0 rfl ?_
          refine j_iconst B (v := 2) dX2_check_75 (by decide) ?_
          refine j_put B (Wd' := pgR D cD cC A (pgU (pgU σ 8 (ix d) g) 4 (ix d) 2) n ad) pgX1 tyX1 tyX1_ok nmX1 rfl (fun H h => pgR.dk h hj4) 6 (by decide) q_205 rfl rfl rfl rfl rfl (Nat.le_of_ble_eq_true rfl) dX2_check_76 (hIn (13 + ix d) (by omega)) (fun H H1 h hc hz ho => pgR.putD h hj4 (by decide) pgDs6 hc ho) ?_
          refine j_aload B dX2_check_79 0 rfl ?_
          refine j_get B (v := .int 2) pgX1 rfl (fun H h => pgR.dk h hj4) 6 (by decide) q_205 rfl (by simp [pgU]) dX2_check_81 ?_
          have e9 : sp_check σ d w g = (0, 2, pgU (pgU σ 8 (ix d) g) 4 (ix d) 2) := by
            have q9 : σ 4 (ix d) = 1 → pgU (pgU σ 8 (ix d) g) 4 (ix d) 1 = pgU σ 8 (ix d) g := fun z => pgU_same z
            simp only [sp_check, pgU_self]; grind
          exact j_x (j_iret B hr rfl dX2_check_84 (Nat.le_of_ble_eq_true rfl) (Nat.le_of_ble_eq_true rfl) () ⟨by rw [e9], by rw [e9]⟩ (fun H h => pgR.eq h (by rw [e9])))
      · exact j_throw (k := 3) pgTS pgTS2 pgTS3 rfl q_173 q_8 rfl B hl ht (is := 151) (text := "the disk is not wiped") (by decide) dX2_check_53 dX2_check_56 dX2_check_57 dX2_check_59 dX2_check_62 (Nat.le_of_ble_eq_true rfl) (Nat.le_of_ble_eq_true rfl) (Nat.le_of_ble_eq_true rfl) (Nat.le_of_ble_eq_true rfl) (Nat.le_of_ble_eq_true rfl) (Nat.le_of_ble_eq_true rfl) (by simp only [sp_check]; grind) (fun H H1 h hq => pgR.more h hq)
    · exact j_throw (k := 2) pgTA pgTA2 pgTA3 rfl q_157 q_7 rfl B hl ht (is := 149) (text := "the witness wiped the disk") (by decide) dX2_check_29 dX2_check_32 dX2_check_33 dX2_check_35 dX2_check_38 (Nat.le_of_ble_eq_true rfl) (Nat.le_of_ble_eq_true rfl) (Nat.le_of_ble_eq_true rfl) (Nat.le_of_ble_eq_true rfl) (Nat.le_of_ble_eq_true rfl) (Nat.le_of_ble_eq_true rfl) (by simp only [sp_check]; grind) (fun H H1 h hq => pgR.more h hq)
set_option maxHeartbeats 4000000 in
set_option maxRecDepth 100000 in
/-- lose -/
theorem c_X2_lose (l : Launch) (hl : l.stackTraces = false) (D : va_G) (cD cC cI cZ cL : ClassId) (A : Nat → Prop) (σ : pgSt) (n : Nat) (ad : Nat → Nat) (hI : pgI n σ) (d : Int32) : vx_Met l yX2_lose (.code yX2_lose cX2_lose 3 (some .int) :: pgWd) ({ frames := 7, cells := 2, slots := 12, locals := 104 } : Room) (pgPc D (pgTys cD cC cI cZ cL) A (pgR D cD cC A σ n ad) [.ref (ad 0), .int d]) (va_Qi (fun (r : Int32) (_ : Unit) => (sp_lose σ d).1 = 0 ∧ r = (sp_lose σ d).2.1) (fun _ t9 => pgR D cD cC A ((sp_lose σ d).2.2) n ad t9.heap) A) (pgX A (fun k => (sp_lose σ d).1 = k ∧ k ≠ 0) (pgR D cD cC A σ n ad)) 2 12 A := by
  refine pg_enterX (own := RX2) (by decide) rfl (Nat.le_of_ble_eq_true rfl) (fun p e s m below meth cc9 B hr hnm ht => ?_)
  refine j_fact (fun H h => pgR.inA h) (fun hIn => ?_)
  refine j_aload_n B dX2_lose_0 0 rfl rfl ?_
  refine j_iload_n B dX2_lose_1 1 rfl rfl ?_
  refine j_xVr B 1 [.int d] ht (WdC' := pgR D cD cC A σ n ad)  (c_X2_findDisk l hl D cD cC cI cZ cL A σ n ad hI d) rfl (fun H h => pgR.x h) q_245 q_247 q_p2 q_1 q_248 hdX2_findDisk rfl ⟨Nat.le_of_ble_eq_true rfl, Nat.le_of_ble_eq_true rfl⟩ (Nat.le_of_ble_eq_true rfl) dX2_lose_2 rfl ⟨Nat.le_of_ble_eq_true rfl, Nat.le_of_ble_eq_true rfl⟩ (Nat.le_of_ble_eq_true rfl) (Nat.le_of_ble_eq_true rfl) (fun k h => by obtain ⟨rfl, h9⟩ := h; simp only [sp_lose]; grind) (fun H h => h) (fun r1 hp2 => ?_)
  obtain ⟨rfl, hD3⟩ := hp2
  have hj4 := (pgIsD.at hI hD3).1
  refine j_astore_n B (L' := [(2, .ref (ad (13 + ix d))), (0, .ref (ad 0)), (1, .int d)]) dX2_lose_5 rfl (by decide) rfl ?_
  refine j_aload_n B dX2_lose_6 0 rfl rfl ?_
  refine j_get B (v := .int (σ 5 (ix d))) pgX1 rfl (fun H h => pgR.dk h hj4) 9 (by decide) q_210 rfl rfl dX2_lose_7 ?_
  refine j_if_eq B 23 dX2_lose_10 (by decide) (fun h5 => ?_) (fun h5 => ?_)
  · refine j_aload_n B dX2_lose_23 0 rfl rfl ?_
    refine j_iconst B (v := 1) dX2_lose_24 (by decide) ?_
    refine j_put B (Wd' := pgR D cD cC A (pgU σ 5 (ix d) 1) n ad) pgX1 tyX1 tyX1_ok nmX1 rfl (fun H h => pgR.dk h hj4) 9 (by decide) q_210 rfl rfl rfl rfl rfl (Nat.le_of_ble_eq_true rfl) dX2_lose_25 (hIn (13 + ix d) (by omega)) (fun H H1 h hc hz ho => pgR.putD h hj4 (by decide) pgDs9 hc ho) ?_
    refine j_aload_n B dX2_lose_28 0 rfl rfl ?_
    refine j_iconst B (v := (-1)) dX2_lose_29 (by decide) ?_
    refine j_put B (Wd' := pgR D cD cC A (pgU (pgU σ 5 (ix d) 1) 6 (ix d) (-1)) n ad) pgX1 tyX1 tyX1_ok nmX1 rfl (fun H h => pgR.dk h hj4) 5 (by decide) q_203 rfl rfl rfl rfl rfl (Nat.le_of_ble_eq_true rfl) dX2_lose_30 (hIn (13 + ix d) (by omega)) (fun H H1 h hc hz ho => pgR.putD h hj4 (by decide) pgDs5 hc ho) ?_
    refine j_aload_n B dX2_lose_33 0 rfl rfl ?_
    refine j_get B (v := .int (σ 2 (ix d))) pgX1 rfl (fun H h => pgR.dk h hj4) 2 (by decide) q_198 rfl rfl dX2_lose_34 ?_
    have e9 : sp_lose σ d = (0, σ 2 (ix d), pgU (pgU σ 5 (ix d) 1) 6 (ix d) (-1)) := by
      simp only [sp_lose]; grind
    exact j_x (j_iret B hr rfl dX2_lose_37 (Nat.le_of_ble_eq_true rfl) (Nat.le_of_ble_eq_true rfl) () ⟨by rw [e9], by rw [e9]⟩ (fun H h => pgR.eq h (by rw [e9])))
  · exact j_throw (k := 3) pgTS pgTS2 pgTS3 rfl q_173 q_8 rfl B hl ht (is := 153) (text := "the disk is missing") (by decide) dX2_lose_13 dX2_lose_16 dX2_lose_17 dX2_lose_19 dX2_lose_22 (Nat.le_of_ble_eq_true rfl) (Nat.le_of_ble_eq_true rfl) (Nat.le_of_ble_eq_true rfl) (Nat.le_of_ble_eq_true rfl) (Nat.le_of_ble_eq_true rfl) (Nat.le_of_ble_eq_true rfl) (by simp only [sp_lose]; grind) (fun H H1 h hq => pgR.more h hq)
set_option maxHeartbeats 4000000 in
set_option maxRecDepth 100000 in
/-- find -/
theorem c_X2_find (l : Launch) (hl : l.stackTraces = false) (D : va_G) (cD cC cI cZ cL : ClassId) (A : Nat → Prop) (σ : pgSt) (n : Nat) (ad : Nat → Nat) (hI : pgI n σ) (d : Int32) : vx_Met l yX2_find (.code yX2_find cX2_find 3 (some .int) :: pgWd) ({ frames := 7, cells := 2, slots := 12, locals := 104 } : Room) (pgPc D (pgTys cD cC cI cZ cL) A (pgR D cD cC A σ n ad) [.ref (ad 0), .int d]) (va_Qi (fun (r : Int32) (_ : Unit) => (sp_find σ d).1 = 0 ∧ r = (sp_find σ d).2.1) (fun _ t9 => pgR D cD cC A ((sp_find σ d).2.2) n ad t9.heap) A) (pgX A (fun k => (sp_find σ d).1 = k ∧ k ≠ 0) (pgR D cD cC A σ n ad)) 2 12 A := by
  refine pg_enterX (own := RX2) (by decide) rfl (Nat.le_of_ble_eq_true rfl) (fun p e s m below meth cc9 B hr hnm ht => ?_)
  refine j_fact (fun H h => pgR.inA h) (fun hIn => ?_)
  refine j_aload_n B dX2_find_0 0 rfl rfl ?_
  refine j_iload_n B dX2_find_1 1 rfl rfl ?_
  refine j_xVr B 1 [.int d] ht (WdC' := pgR D cD cC A σ n ad)  (c_X2_findDisk l hl D cD cC cI cZ cL A σ n ad hI d) rfl (fun H h => pgR.x h) q_245 q_247 q_p2 q_1 q_248 hdX2_findDisk rfl ⟨Nat.le_of_ble_eq_true rfl, Nat.le_of_ble_eq_true rfl⟩ (Nat.le_of_ble_eq_true rfl) dX2_find_2 rfl ⟨Nat.le_of_ble_eq_true rfl, Nat.le_of_ble_eq_true rfl⟩ (Nat.le_of_ble_eq_true rfl) (Nat.le_of_ble_eq_true rfl) (fun k h => by obtain ⟨rfl, h9⟩ := h; simp only [sp_find]; grind) (fun H h => h) (fun r1 hp2 => ?_)
  obtain ⟨rfl, hD3⟩ := hp2
  have hj4 := (pgIsD.at hI hD3).1
  refine j_astore_n B (L' := [(2, .ref (ad (13 + ix d))), (0, .ref (ad 0)), (1, .int d)]) dX2_find_5 rfl (by decide) rfl ?_
  refine j_aload_n B dX2_find_6 0 rfl rfl ?_
  refine j_get B (v := .int (σ 5 (ix d))) pgX1 rfl (fun H h => pgR.dk h hj4) 9 (by decide) q_210 rfl rfl dX2_find_7 ?_
  refine j_if_ne B 23 dX2_find_10 (by decide) (fun h5 => ?_) (fun h5 => ?_)
  · refine j_aload_n B dX2_find_23 0 rfl rfl ?_
    refine j_iconst B (v := 0) dX2_find_24 (by decide) ?_
    refine j_put B (Wd' := pgR D cD cC A (pgU σ 5 (ix d) 0) n ad) pgX1 tyX1 tyX1_ok nmX1 rfl (fun H h => pgR.dk h hj4) 9 (by decide) q_210 rfl rfl rfl rfl rfl (Nat.le_of_ble_eq_true rfl) dX2_find_25 (hIn (13 + ix d) (by omega)) (fun H H1 h hc hz ho => pgR.putD h hj4 (by decide) pgDs9 hc ho) ?_
    refine j_aload_n B dX2_find_28 0 rfl rfl ?_
    refine j_cVi B (S := Unit) 0 [] (WdC' := fun _ => pgR D cD cC A (pgU σ 5 (ix d) 0) n ad) (fun _ => pgR D cD cC A (pgU σ 5 (ix d) 0) n ad) (c_X1_crateNumber l D cD cC cI cZ cL A (pgU σ 5 (ix d) 0) n ad (ix d) hj4 (pgCr_ne (by decide) hI.2.2.1)) rfl (fun H h => pgR.dk h hj4) q_258 q_259 q_260 q_9 q_261 hdX1_crateNumber rfl ⟨Nat.le_of_ble_eq_true rfl, Nat.le_of_ble_eq_true rfl⟩ (Nat.le_of_ble_eq_true rfl) dX2_find_29 rfl ⟨Nat.le_of_ble_eq_true rfl, Nat.le_of_ble_eq_true rfl⟩ (fun _ h => h) (fun _ _ _ _ h => h) (fun _ h => h) (fun _ _ _ _ h _ _ => h) (fun r6 _ hp7 => ?_)
    obtain rfl : r6 = σ 3 (ix d) := hp7
    have e9 : sp_find σ d = (0, σ 3 (ix d), pgU σ 5 (ix d) 0) := by
      simp only [sp_find]; grind
    exact j_x (j_iret B hr rfl dX2_find_32 (Nat.le_of_ble_eq_true rfl) (Nat.le_of_ble_eq_true rfl) () ⟨by rw [e9], by rw [e9]⟩ (fun H h => pgR.eq h (by rw [e9])))
  · exact j_throw (k := 3) pgTS pgTS2 pgTS3 rfl q_173 q_8 rfl B hl ht (is := 155) (text := "the disk is not missing") (by decide) dX2_find_13 dX2_find_16 dX2_find_17 dX2_find_19 dX2_find_22 (Nat.le_of_ble_eq_true rfl) (Nat.le_of_ble_eq_true rfl) (Nat.le_of_ble_eq_true rfl) (Nat.le_of_ble_eq_true rfl) (Nat.le_of_ble_eq_true rfl) (Nat.le_of_ble_eq_true rfl) (by simp only [sp_find]; grind) (fun H H1 h hq => pgR.more h hq)
set_option maxHeartbeats 4000000 in
set_option maxRecDepth 100000 in
/-- keeperOf -/
theorem c_X2_keeperOf (l : Launch) (hl : l.stackTraces = false) (D : va_G) (cD cC cI cZ cL : ClassId) (A : Nat → Prop) (σ : pgSt) (n : Nat) (ad : Nat → Nat) (hI : pgI n σ) (d : Int32) : vx_Met l yX2_keeperOf (.code yX2_keeperOf cX2_keeperOf 2 (some .int) :: pgWd) ({ frames := 7, cells := 1, slots := 6, locals := 104 } : Room) (pgPc D (pgTys cD cC cI cZ cL) A (pgR D cD cC A σ n ad) [.ref (ad 0), .int d]) (va_Qi (fun (r : Int32) (_ : Unit) => (sp_askD σ d 2).1 = 0 ∧ r = (sp_askD σ d 2).2.1) (fun _ t9 => pgR D cD cC A ((sp_askD σ d 2).2.2) n ad t9.heap) A) (pgX A (fun k => (sp_askD σ d 2).1 = k ∧ k ≠ 0) (pgR D cD cC A σ n ad)) 1 6 A := by
  refine pg_enterX (own := RX2) (by decide) rfl (Nat.le_of_ble_eq_true rfl) (fun p e s m below meth cc9 B hr hnm ht => ?_)
  refine j_fact (fun H h => pgR.inA h) (fun hIn => ?_)
  refine j_aload_n B dX2_keeperOf_0 0 rfl rfl ?_
  refine j_iload_n B dX2_keeperOf_1 1 rfl rfl ?_
  refine j_xVr B 1 [.int d] ht (WdC' := pgR D cD cC A σ n ad)  (c_X2_findDisk l hl D cD cC cI cZ cL A σ n ad hI d) rfl (fun H h => pgR.x h) q_245 q_247 q_p2 q_1 q_248 hdX2_findDisk rfl ⟨Nat.le_of_ble_eq_true rfl, Nat.le_of_ble_eq_true rfl⟩ (Nat.le_of_ble_eq_true rfl) dX2_keeperOf_2 rfl ⟨Nat.le_of_ble_eq_true rfl, Nat.le_of_ble_eq_true rfl⟩ (Nat.le_of_ble_eq_true rfl) (Nat.le_of_ble_eq_true rfl) (fun k h => by obtain ⟨rfl, h9⟩ := h; simp only [sp_askD]; grind) (fun H h => h) (fun r1 hp2 => ?_)
  obtain ⟨rfl, hD3⟩ := hp2
  have hj4 := (pgIsD.at hI hD3).1
  refine j_get B (v := .int (σ 2 (ix d))) pgX1 rfl (fun H h => pgR.dk h hj4) 2 (by decide) q_198 rfl rfl dX2_keeperOf_5 ?_
  have e9 : sp_askD σ d 2 = (0, σ 2 (ix d), σ) := by
    simp only [sp_askD]; grind
  exact j_x (j_iret B hr rfl dX2_keeperOf_8 (Nat.le_of_ble_eq_true rfl) (Nat.le_of_ble_eq_true rfl) () ⟨by rw [e9], by rw [e9]⟩ (fun H h => pgR.eq h (by rw [e9])))
set_option maxHeartbeats 4000000 in
set_option maxRecDepth 100000 in
/-- keeperByLog -/
theorem c_X2_keeperByLog (l : Launch) (hl : l.stackTraces = false) (D : va_G) (cD cC cI cZ cL : ClassId) (A : Nat → Prop) (σ : pgSt) (n : Nat) (ad : Nat → Nat) (hI : pgI n σ) (d : Int32) : vx_Met l yX2_keeperByLog (.code yX2_keeperByLog cX2_keeperByLog 2 (some .int) :: pgWd) ({ frames := 7, cells := 1, slots := 6, locals := 104 } : Room) (pgPc D (pgTys cD cC cI cZ cL) A (pgR D cD cC A σ n ad) [.ref (ad 0), .int d]) (va_Qi (fun (r : Int32) (_ : Unit) => (sp_askD σ d 14).1 = 0 ∧ r = (sp_askD σ d 14).2.1) (fun _ t9 => pgR D cD cC A ((sp_askD σ d 14).2.2) n ad t9.heap) A) (pgX A (fun k => (sp_askD σ d 14).1 = k ∧ k ≠ 0) (pgR D cD cC A σ n ad)) 1 6 A := by
  refine pg_enterX (own := RX2) (by decide) rfl (Nat.le_of_ble_eq_true rfl) (fun p e s m below meth cc9 B hr hnm ht => ?_)
  refine j_fact (fun H h => pgR.inA h) (fun hIn => ?_)
  refine j_aload_n B dX2_keeperByLog_0 0 rfl rfl ?_
  refine j_iload_n B dX2_keeperByLog_1 1 rfl rfl ?_
  refine j_xVr B 1 [.int d] ht (WdC' := pgR D cD cC A σ n ad)  (c_X2_findDisk l hl D cD cC cI cZ cL A σ n ad hI d) rfl (fun H h => pgR.x h) q_245 q_247 q_p2 q_1 q_248 hdX2_findDisk rfl ⟨Nat.le_of_ble_eq_true rfl, Nat.le_of_ble_eq_true rfl⟩ (Nat.le_of_ble_eq_true rfl) dX2_keeperByLog_2 rfl ⟨Nat.le_of_ble_eq_true rfl, Nat.le_of_ble_eq_true rfl⟩ (Nat.le_of_ble_eq_true rfl) (Nat.le_of_ble_eq_true rfl) (fun k h => by obtain ⟨rfl, h9⟩ := h; simp only [sp_askD]; grind) (fun H h => h) (fun r1 hp2 => ?_)
  obtain ⟨rfl, hD3⟩ := hp2
  have hj4 := (pgIsD.at hI hD3).1
  refine j_get B (v := .int (σ 14 (ix d))) pgX1 rfl (fun H h => pgR.dk h hj4) 3 (by decide) q_199 rfl rfl dX2_keeperByLog_5 ?_
  have e9 : sp_askD σ d 14 = (0, σ 14 (ix d), σ) := by
    simp only [sp_askD]; grind
  exact j_x (j_iret B hr rfl dX2_keeperByLog_8 (Nat.le_of_ble_eq_true rfl) (Nat.le_of_ble_eq_true rfl) () ⟨by rw [e9], by rw [e9]⟩ (fun H h => pgR.eq h (by rw [e9])))
set_option maxHeartbeats 4000000 in
set_option maxRecDepth 100000 in
/-- crateOf -/
theorem c_X2_crateOf (l : Launch) (hl : l.stackTraces = false) (D : va_G) (cD cC cI cZ cL : ClassId) (A : Nat → Prop) (σ : pgSt) (n : Nat) (ad : Nat → Nat) (hI : pgI n σ) (d : Int32) : vx_Met l yX2_crateOf (.code yX2_crateOf cX2_crateOf 2 (some .int) :: pgWd) ({ frames := 7, cells := 1, slots := 6, locals := 104 } : Room) (pgPc D (pgTys cD cC cI cZ cL) A (pgR D cD cC A σ n ad) [.ref (ad 0), .int d]) (va_Qi (fun (r : Int32) (_ : Unit) => (sp_askD σ d 3).1 = 0 ∧ r = (sp_askD σ d 3).2.1) (fun _ t9 => pgR D cD cC A ((sp_askD σ d 3).2.2) n ad t9.heap) A) (pgX A (fun k => (sp_askD σ d 3).1 = k ∧ k ≠ 0) (pgR D cD cC A σ n ad)) 1 6 A := by
  refine pg_enterX (own := RX2) (by decide) rfl (Nat.le_of_ble_eq_true rfl) (fun p e s m below meth cc9 B hr hnm ht => ?_)
  refine j_fact (fun H h => pgR.inA h) (fun hIn => ?_)
  refine j_aload_n B dX2_crateOf_0 0 rfl rfl ?_
  refine j_iload_n B dX2_crateOf_1 1 rfl rfl ?_
  refine j_xVr B 1 [.int d] ht (WdC' := pgR D cD cC A σ n ad)  (c_X2_findDisk l hl D cD cC cI cZ cL A σ n ad hI d) rfl (fun H h => pgR.x h) q_245 q_247 q_p2 q_1 q_248 hdX2_findDisk rfl ⟨Nat.le_of_ble_eq_true rfl, Nat.le_of_ble_eq_true rfl⟩ (Nat.le_of_ble_eq_true rfl) dX2_crateOf_2 rfl ⟨Nat.le_of_ble_eq_true rfl, Nat.le_of_ble_eq_true rfl⟩ (Nat.le_of_ble_eq_true rfl) (Nat.le_of_ble_eq_true rfl) (fun k h => by obtain ⟨rfl, h9⟩ := h; simp only [sp_askD]; grind) (fun H h => h) (fun r1 hp2 => ?_)
  obtain ⟨rfl, hD3⟩ := hp2
  have hj4 := (pgIsD.at hI hD3).1
  refine j_cVi B (S := Unit) 0 [] (WdC' := fun _ => pgR D cD cC A σ n ad) (fun _ => pgR D cD cC A σ n ad) (c_X1_crateNumber l D cD cC cI cZ cL A σ n ad (ix d) hj4 hI.2.2.1) rfl (fun H h => pgR.dk h hj4) q_258 q_259 q_260 q_9 q_261 hdX1_crateNumber rfl ⟨Nat.le_of_ble_eq_true rfl, Nat.le_of_ble_eq_true rfl⟩ (Nat.le_of_ble_eq_true rfl) dX2_crateOf_5 rfl ⟨Nat.le_of_ble_eq_true rfl, Nat.le_of_ble_eq_true rfl⟩ (fun _ h => h) (fun _ _ _ _ h => h) (fun _ h => h) (fun _ _ _ _ h _ _ => h) (fun r5 _ hp6 => ?_)
  obtain rfl : r5 = σ 3 (ix d) := hp6
  have e9 : sp_askD σ d 3 = (0, σ 3 (ix d), σ) := by
    simp only [sp_askD]; grind
  exact j_x (j_iret B hr rfl dX2_crateOf_8 (Nat.le_of_ble_eq_true rfl) (Nat.le_of_ble_eq_true rfl) () ⟨by rw [e9], by rw [e9]⟩ (fun H h => pgR.eq h (by rw [e9])))
set_option maxHeartbeats 4000000 in
set_option maxRecDepth 100000 in
/-- stateOf -/
theorem c_X2_stateOf (l : Launch) (hl : l.stackTraces = false) (D : va_G) (cD cC cI cZ cL : ClassId) (A : Nat → Prop) (σ : pgSt) (n : Nat) (ad : Nat → Nat) (hI : pgI n σ) (d : Int32) : vx_Met l yX2_stateOf (.code yX2_stateOf cX2_stateOf 2 (some .int) :: pgWd) ({ frames := 7, cells := 1, slots := 6, locals := 104 } : Room) (pgPc D (pgTys cD cC cI cZ cL) A (pgR D cD cC A σ n ad) [.ref (ad 0), .int d]) (va_Qi (fun (r : Int32) (_ : Unit) => (sp_askD σ d 4).1 = 0 ∧ r = (sp_askD σ d 4).2.1) (fun _ t9 => pgR D cD cC A ((sp_askD σ d 4).2.2) n ad t9.heap) A) (pgX A (fun k => (sp_askD σ d 4).1 = k ∧ k ≠ 0) (pgR D cD cC A σ n ad)) 1 6 A := by
  refine pg_enterX (own := RX2) (by decide) rfl (Nat.le_of_ble_eq_true rfl) (fun p e s m below meth cc9 B hr hnm ht => ?_)
  refine j_fact (fun H h => pgR.inA h) (fun hIn => ?_)
  refine j_aload_n B dX2_stateOf_0 0 rfl rfl ?_
  refine j_iload_n B dX2_stateOf_1 1 rfl rfl ?_
  refine j_xVr B 1 [.int d] ht (WdC' := pgR D cD cC A σ n ad)  (c_X2_findDisk l hl D cD cC cI cZ cL A σ n ad hI d) rfl (fun H h => pgR.x h) q_245 q_247 q_p2 q_1 q_248 hdX2_findDisk rfl ⟨Nat.le_of_ble_eq_true rfl, Nat.le_of_ble_eq_true rfl⟩ (Nat.le_of_ble_eq_true rfl) dX2_stateOf_2 rfl ⟨Nat.le_of_ble_eq_true rfl, Nat.le_of_ble_eq_true rfl⟩ (Nat.le_of_ble_eq_true rfl) (Nat.le_of_ble_eq_true rfl) (fun k h => by obtain ⟨rfl, h9⟩ := h; simp only [sp_askD]; grind) (fun H h => h) (fun r1 hp2 => ?_)
  obtain ⟨rfl, hD3⟩ := hp2
  have hj4 := (pgIsD.at hI hD3).1
  refine j_get B (v := .int (σ 4 (ix d))) pgX1 rfl (fun H h => pgR.dk h hj4) 6 (by decide) q_205 rfl rfl dX2_stateOf_5 ?_
  have e9 : sp_askD σ d 4 = (0, σ 4 (ix d), σ) := by
    simp only [sp_askD]; grind
  exact j_x (j_iret B hr rfl dX2_stateOf_8 (Nat.le_of_ble_eq_true rfl) (Nat.le_of_ble_eq_true rfl) () ⟨by rw [e9], by rw [e9]⟩ (fun H h => pgR.eq h (by rw [e9])))
set_option maxHeartbeats 4000000 in
set_option maxRecDepth 100000 in
/-- offeredTo -/
theorem c_X2_offeredTo (l : Launch) (hl : l.stackTraces = false) (D : va_G) (cD cC cI cZ cL : ClassId) (A : Nat → Prop) (σ : pgSt) (n : Nat) (ad : Nat → Nat) (hI : pgI n σ) (d : Int32) : vx_Met l yX2_offeredTo (.code yX2_offeredTo cX2_offeredTo 2 (some .int) :: pgWd) ({ frames := 7, cells := 1, slots := 6, locals := 104 } : Room) (pgPc D (pgTys cD cC cI cZ cL) A (pgR D cD cC A σ n ad) [.ref (ad 0), .int d]) (va_Qi (fun (r : Int32) (_ : Unit) => (sp_askD σ d 6).1 = 0 ∧ r = (sp_askD σ d 6).2.1) (fun _ t9 => pgR D cD cC A ((sp_askD σ d 6).2.2) n ad t9.heap) A) (pgX A (fun k => (sp_askD σ d 6).1 = k ∧ k ≠ 0) (pgR D cD cC A σ n ad)) 1 6 A := by
  refine pg_enterX (own := RX2) (by decide) rfl (Nat.le_of_ble_eq_true rfl) (fun p e s m below meth cc9 B hr hnm ht => ?_)
  refine j_fact (fun H h => pgR.inA h) (fun hIn => ?_)
  refine j_aload_n B dX2_offeredTo_0 0 rfl rfl ?_
  refine j_iload_n B dX2_offeredTo_1 1 rfl rfl ?_
  refine j_xVr B 1 [.int d] ht (WdC' := pgR D cD cC A σ n ad)  (c_X2_findDisk l hl D cD cC cI cZ cL A σ n ad hI d) rfl (fun H h => pgR.x h) q_245 q_247 q_p2 q_1 q_248 hdX2_findDisk rfl ⟨Nat.le_of_ble_eq_true rfl, Nat.le_of_ble_eq_true rfl⟩ (Nat.le_of_ble_eq_true rfl) dX2_offeredTo_2 rfl ⟨Nat.le_of_ble_eq_true rfl, Nat.le_of_ble_eq_true rfl⟩ (Nat.le_of_ble_eq_true rfl) (Nat.le_of_ble_eq_true rfl) (fun k h => by obtain ⟨rfl, h9⟩ := h; simp only [sp_askD]; grind) (fun H h => h) (fun r1 hp2 => ?_)
  obtain ⟨rfl, hD3⟩ := hp2
  have hj4 := (pgIsD.at hI hD3).1
  refine j_get B (v := .int (σ 6 (ix d))) pgX1 rfl (fun H h => pgR.dk h hj4) 5 (by decide) q_203 rfl rfl dX2_offeredTo_5 ?_
  have e9 : sp_askD σ d 6 = (0, σ 6 (ix d), σ) := by
    simp only [sp_askD]; grind
  exact j_x (j_iret B hr rfl dX2_offeredTo_8 (Nat.le_of_ble_eq_true rfl) (Nat.le_of_ble_eq_true rfl) () ⟨by rw [e9], by rw [e9]⟩ (fun H h => pgR.eq h (by rw [e9])))
set_option maxHeartbeats 4000000 in
set_option maxRecDepth 100000 in
/-- certificateOf -/
theorem c_X2_certificateOf (l : Launch) (hl : l.stackTraces = false) (D : va_G) (cD cC cI cZ cL : ClassId) (A : Nat → Prop) (σ : pgSt) (n : Nat) (ad : Nat → Nat) (hI : pgI n σ) (d : Int32) : vx_Met l yX2_certificateOf (.code yX2_certificateOf cX2_certificateOf 2 (some .int) :: pgWd) ({ frames := 7, cells := 1, slots := 6, locals := 104 } : Room) (pgPc D (pgTys cD cC cI cZ cL) A (pgR D cD cC A σ n ad) [.ref (ad 0), .int d]) (va_Qi (fun (r : Int32) (_ : Unit) => (sp_askD σ d 9).1 = 0 ∧ r = (sp_askD σ d 9).2.1) (fun _ t9 => pgR D cD cC A ((sp_askD σ d 9).2.2) n ad t9.heap) A) (pgX A (fun k => (sp_askD σ d 9).1 = k ∧ k ≠ 0) (pgR D cD cC A σ n ad)) 1 6 A := by
  refine pg_enterX (own := RX2) (by decide) rfl (Nat.le_of_ble_eq_true rfl) (fun p e s m below meth cc9 B hr hnm ht => ?_)
  refine j_fact (fun H h => pgR.inA h) (fun hIn => ?_)
  refine j_aload_n B dX2_certificateOf_0 0 rfl rfl ?_
  refine j_iload_n B dX2_certificateOf_1 1 rfl rfl ?_
  refine j_xVr B 1 [.int d] ht (WdC' := pgR D cD cC A σ n ad)  (c_X2_findDisk l hl D cD cC cI cZ cL A σ n ad hI d) rfl (fun H h => pgR.x h) q_245 q_247 q_p2 q_1 q_248 hdX2_findDisk rfl ⟨Nat.le_of_ble_eq_true rfl, Nat.le_of_ble_eq_true rfl⟩ (Nat.le_of_ble_eq_true rfl) dX2_certificateOf_2 rfl ⟨Nat.le_of_ble_eq_true rfl, Nat.le_of_ble_eq_true rfl⟩ (Nat.le_of_ble_eq_true rfl) (Nat.le_of_ble_eq_true rfl) (fun k h => by obtain ⟨rfl, h9⟩ := h; simp only [sp_askD]; grind) (fun H h => h) (fun r1 hp2 => ?_)
  obtain ⟨rfl, hD3⟩ := hp2
  have hj4 := (pgIsD.at hI hD3).1
  refine j_get B (v := .int (σ 9 (ix d))) pgX1 rfl (fun H h => pgR.dk h hj4) 10 (by decide) q_213 rfl rfl dX2_certificateOf_5 ?_
  have e9 : sp_askD σ d 9 = (0, σ 9 (ix d), σ) := by
    simp only [sp_askD]; grind
  exact j_x (j_iret B hr rfl dX2_certificateOf_8 (Nat.le_of_ble_eq_true rfl) (Nat.le_of_ble_eq_true rfl) () ⟨by rw [e9], by rw [e9]⟩ (fun H h => pgR.eq h (by rw [e9])))
set_option maxHeartbeats 4000000 in
set_option maxRecDepth 100000 in
/-- isDone -/
theorem c_X2_isDone (l : Launch) (hl : l.stackTraces = false) (D : va_G) (cD cC cI cZ cL : ClassId) (A : Nat → Prop) (σ : pgSt) (n : Nat) (ad : Nat → Nat) (hI : pgI n σ) (d : Int32) : vx_Met l yX2_isDone (.code yX2_isDone cX2_isDone 2 (some .boolean) :: pgWd) ({ frames := 7, cells := 1, slots := 6, locals := 104 } : Room) (pgPc D (pgTys cD cC cI cZ cL) A (pgR D cD cC A σ n ad) [.ref (ad 0), .int d]) (va_Qi (fun (r : Int32) (_ : Unit) => (sp_isDone σ d).1 = 0 ∧ r = (sp_isDone σ d).2.1) (fun _ t9 => pgR D cD cC A ((sp_isDone σ d).2.2) n ad t9.heap) A) (pgX A (fun k => (sp_isDone σ d).1 = k ∧ k ≠ 0) (pgR D cD cC A σ n ad)) 1 6 A := by
  refine pg_enterX (own := RX2) (by decide) rfl (Nat.le_of_ble_eq_true rfl) (fun p e s m below meth cc9 B hr hnm ht => ?_)
  refine j_fact (fun H h => pgR.inA h) (fun hIn => ?_)
  refine j_aload_n B dX2_isDone_0 0 rfl rfl ?_
  refine j_iload_n B dX2_isDone_1 1 rfl rfl ?_
  refine j_xVr B 1 [.int d] ht (WdC' := pgR D cD cC A σ n ad)  (c_X2_findDisk l hl D cD cC cI cZ cL A σ n ad hI d) rfl (fun H h => pgR.x h) q_245 q_247 q_p2 q_1 q_248 hdX2_findDisk rfl ⟨Nat.le_of_ble_eq_true rfl, Nat.le_of_ble_eq_true rfl⟩ (Nat.le_of_ble_eq_true rfl) dX2_isDone_2 rfl ⟨Nat.le_of_ble_eq_true rfl, Nat.le_of_ble_eq_true rfl⟩ (Nat.le_of_ble_eq_true rfl) (Nat.le_of_ble_eq_true rfl) (fun k h => by obtain ⟨rfl, h9⟩ := h; simp only [sp_isDone]; grind) (fun H h => h) (fun r1 hp2 => ?_)
  obtain ⟨rfl, hD3⟩ := hp2
  have hj4 := (pgIsD.at hI hD3).1
  refine j_cVi B (S := Unit) 0 [] (WdC' := fun _ => pgR D cD cC A σ n ad) (fun _ => pgR D cD cC A σ n ad) (c_X1_isFinished l D cD cC cI cZ cL A σ n ad (ix d) hj4) rfl (fun H h => pgR.dk h hj4) q_276 q_277 q_278 q_9 q_279 hdX1_isFinished rfl ⟨Nat.le_of_ble_eq_true rfl, Nat.le_of_ble_eq_true rfl⟩ (Nat.le_of_ble_eq_true rfl) dX2_isDone_5 rfl ⟨Nat.le_of_ble_eq_true rfl, Nat.le_of_ble_eq_true rfl⟩ (fun _ h => h) (fun _ _ _ _ h => h) (fun _ h => h) (fun _ _ _ _ h _ _ => h) (fun r5 _ hp6 => ?_)
  by_cases h7 : pgFin σ (ix d)
  · obtain rfl : r5 = 1 := by rw [hp6]; exact if_pos h7
    have e9 : sp_isDone σ d = (0, 1, σ) := by
      simp only [sp_isDone]; grind
    exact j_x (j_iret B hr rfl dX2_isDone_8 (Nat.le_of_ble_eq_true rfl) (Nat.le_of_ble_eq_true rfl) () ⟨by rw [e9], by rw [e9]⟩ (fun H h => pgR.eq h (by rw [e9])))
  · obtain rfl : r5 = 0 := by rw [hp6]; exact if_neg h7
    have e9 : sp_isDone σ d = (0, 0, σ) := by
      simp only [sp_isDone]; grind
    exact j_x (j_iret B hr rfl dX2_isDone_8 (Nat.le_of_ble_eq_true rfl) (Nat.le_of_ble_eq_true rfl) () ⟨by rw [e9], by rw [e9]⟩ (fun H h => pgR.eq h (by rw [e9])))
set_option maxHeartbeats 4000000 in
set_option maxRecDepth 100000 in
/-- crateKeeper -/
theorem c_X2_crateKeeper (l : Launch) (hl : l.stackTraces = false) (D : va_G) (cD cC cI cZ cL : ClassId) (A : Nat → Prop) (σ : pgSt) (n : Nat) (ad : Nat → Nat) (hI : pgI n σ) (c : Int32) : vx_Met l yX2_crateKeeper (.code yX2_crateKeeper cX2_crateKeeper 2 (some .int) :: pgWd) ({ frames := 7, cells := 1, slots := 6, locals := 104 } : Room) (pgPc D (pgTys cD cC cI cZ cL) A (pgR D cD cC A σ n ad) [.ref (ad 0), .int c]) (va_Qi (fun (r : Int32) (_ : Unit) => (sp_askC σ c 10).1 = 0 ∧ r = (sp_askC σ c 10).2.1) (fun _ t9 => pgR D cD cC A ((sp_askC σ c 10).2.2) n ad t9.heap) A) (pgX A (fun k => (sp_askC σ c 10).1 = k ∧ k ≠ 0) (pgR D cD cC A σ n ad)) 1 6 A := by
  refine pg_enterX (own := RX2) (by decide) rfl (Nat.le_of_ble_eq_true rfl) (fun p e s m below meth cc9 B hr hnm ht => ?_)
  refine j_fact (fun H h => pgR.inA h) (fun hIn => ?_)
  refine j_aload_n B dX2_crateKeeper_0 0 rfl rfl ?_
  refine j_iload_n B dX2_crateKeeper_1 1 rfl rfl ?_
  refine j_xVr B 1 [.int c] ht (WdC' := pgR D cD cC A σ n ad)  (c_X2_findCrate l hl D cD cC cI cZ cL A σ n ad c) rfl (fun H h => pgR.x h) q_300 q_302 q_p3 q_1 q_303 hdX2_findCrate rfl ⟨Nat.le_of_ble_eq_true rfl, Nat.le_of_ble_eq_true rfl⟩ (Nat.le_of_ble_eq_true rfl) dX2_crateKeeper_2 rfl ⟨Nat.le_of_ble_eq_true rfl, Nat.le_of_ble_eq_true rfl⟩ (Nat.le_of_ble_eq_true rfl) (Nat.le_of_ble_eq_true rfl) (fun k h => by obtain ⟨rfl, h9⟩ := h; simp only [sp_askC]; grind) (fun H h => h) (fun r1 hp2 => ?_)
  obtain ⟨rfl, hD3⟩ := hp2
  have hj4 := (pgIsC.at hD3).1
  refine j_get B (v := .int (σ 10 (ix c))) pgX0 rfl (fun H h => pgR.cr h hj4) 1 (by decide) q_34 rfl rfl dX2_crateKeeper_5 ?_
  have e9 : sp_askC σ c 10 = (0, σ 10 (ix c), σ) := by
    simp only [sp_askC]; grind
  exact j_x (j_iret B hr rfl dX2_crateKeeper_8 (Nat.le_of_ble_eq_true rfl) (Nat.le_of_ble_eq_true rfl) () ⟨by rw [e9], by rw [e9]⟩ (fun H h => pgR.eq h (by rw [e9])))
set_option maxHeartbeats 4000000 in
set_option maxRecDepth 100000 in
/-- sealOf -/
theorem c_X2_sealOf (l : Launch) (hl : l.stackTraces = false) (D : va_G) (cD cC cI cZ cL : ClassId) (A : Nat → Prop) (σ : pgSt) (n : Nat) (ad : Nat → Nat) (hI : pgI n σ) (c : Int32) : vx_Met l yX2_sealOf (.code yX2_sealOf cX2_sealOf 2 (some .int) :: pgWd) ({ frames := 7, cells := 1, slots := 6, locals := 104 } : Room) (pgPc D (pgTys cD cC cI cZ cL) A (pgR D cD cC A σ n ad) [.ref (ad 0), .int c]) (va_Qi (fun (r : Int32) (_ : Unit) => (sp_askC σ c 11).1 = 0 ∧ r = (sp_askC σ c 11).2.1) (fun _ t9 => pgR D cD cC A ((sp_askC σ c 11).2.2) n ad t9.heap) A) (pgX A (fun k => (sp_askC σ c 11).1 = k ∧ k ≠ 0) (pgR D cD cC A σ n ad)) 1 6 A := by
  refine pg_enterX (own := RX2) (by decide) rfl (Nat.le_of_ble_eq_true rfl) (fun p e s m below meth cc9 B hr hnm ht => ?_)
  refine j_fact (fun H h => pgR.inA h) (fun hIn => ?_)
  refine j_aload_n B dX2_sealOf_0 0 rfl rfl ?_
  refine j_iload_n B dX2_sealOf_1 1 rfl rfl ?_
  refine j_xVr B 1 [.int c] ht (WdC' := pgR D cD cC A σ n ad)  (c_X2_findCrate l hl D cD cC cI cZ cL A σ n ad c) rfl (fun H h => pgR.x h) q_300 q_302 q_p3 q_1 q_303 hdX2_findCrate rfl ⟨Nat.le_of_ble_eq_true rfl, Nat.le_of_ble_eq_true rfl⟩ (Nat.le_of_ble_eq_true rfl) dX2_sealOf_2 rfl ⟨Nat.le_of_ble_eq_true rfl, Nat.le_of_ble_eq_true rfl⟩ (Nat.le_of_ble_eq_true rfl) (Nat.le_of_ble_eq_true rfl) (fun k h => by obtain ⟨rfl, h9⟩ := h; simp only [sp_askC]; grind) (fun H h => h) (fun r1 hp2 => ?_)
  obtain ⟨rfl, hD3⟩ := hp2
  have hj4 := (pgIsC.at hD3).1
  refine j_get B (v := .int (σ 11 (ix c))) pgX0 rfl (fun H h => pgR.cr h hj4) 2 (by decide) q_36 rfl rfl dX2_sealOf_5 ?_
  have e9 : sp_askC σ c 11 = (0, σ 11 (ix c), σ) := by
    simp only [sp_askC]; grind
  exact j_x (j_iret B hr rfl dX2_sealOf_8 (Nat.le_of_ble_eq_true rfl) (Nat.le_of_ble_eq_true rfl) () ⟨by rw [e9], by rw [e9]⟩ (fun H h => pgR.eq h (by rw [e9])))
set_option maxHeartbeats 4000000 in
set_option maxRecDepth 100000 in
/-- disks -/
theorem c_X2_disks (l : Launch) (D : va_G) (cD cC cI cZ cL : ClassId) (A : Nat → Prop) (σ : pgSt) (n : Nat) (ad : Nat → Nat)  : Met l yX2_disks (.code yX2_disks cX2_disks 1 (some .int) :: pgWd) ({ frames := 0, cells := 0, slots := 0, locals := 0 } : Room) (pgPc D (pgTys cD cC cI cZ cL) A (pgR D cD cC A σ n ad) [.ref (ad 0)]) (va_Qi (fun (r : Int32) (_ : Unit) => r = σ 13 0) (fun _ t9 => pgR D cD cC A σ n ad t9.heap) A) 0 0 A := by
  refine pg_enter (own := RX2) (by decide) rfl (Nat.le_of_ble_eq_true rfl) (fun p e s m below meth cc9 B hr hnm => ?_)
  refine j_aload_n B dX2_disks_0 0 rfl rfl ?_
  refine j_get B (v := .int (σ 13 0)) pgX2 rfl (fun H h => pgR.x h) 2 (by decide) q_49 rfl rfl dX2_disks_1 ?_
  exact j_iret B hr rfl dX2_disks_4 (Nat.le_of_ble_eq_true rfl) (Nat.le_of_ble_eq_true rfl) () rfl (fun H h => h)
set_option maxHeartbeats 4000000 in
set_option maxRecDepth 100000 in
/-- oddCounts -/
theorem c_X2_oddCounts (l : Launch) (D : va_G) (cD cC cI cZ cL : ClassId) (A : Nat → Prop) (σ : pgSt) (n : Nat) (ad : Nat → Nat)  : Met l yX2_oddCounts (.code yX2_oddCounts cX2_oddCounts 1 (some .int) :: pgWd) ({ frames := 0, cells := 0, slots := 0, locals := 0 } : Room) (pgPc D (pgTys cD cC cI cZ cL) A (pgR D cD cC A σ n ad) [.ref (ad 0)]) (va_Qi (fun (r : Int32) (_ : Unit) => r = σ 13 2) (fun _ t9 => pgR D cD cC A σ n ad t9.heap) A) 0 0 A := by
  refine pg_enter (own := RX2) (by decide) rfl (Nat.le_of_ble_eq_true rfl) (fun p e s m below meth cc9 B hr hnm => ?_)
  refine j_aload_n B dX2_oddCounts_0 0 rfl rfl ?_
  refine j_get B (v := .int (σ 13 2)) pgX2 rfl (fun H h => pgR.x h) 4 (by decide) q_51 rfl rfl dX2_oddCounts_1 ?_
  exact j_iret B hr rfl dX2_oddCounts_4 (Nat.le_of_ble_eq_true rfl) (Nat.le_of_ble_eq_true rfl) () rfl (fun H h => h)
set_option maxHeartbeats 4000000 in
set_option maxRecDepth 100000 in
/-- logged -/
theorem c_X2_logged (l : Launch) (D : va_G) (cD cC cI cZ cL : ClassId) (A : Nat → Prop) (σ : pgSt) (n : Nat) (ad : Nat → Nat)  : Met l yX2_logged (.code yX2_logged cX2_logged 1 (some .int) :: pgWd) ({ frames := 0, cells := 0, slots := 0, locals := 0 } : Room) (pgPc D (pgTys cD cC cI cZ cL) A (pgR D cD cC A σ n ad) [.ref (ad 0)]) (va_Qi (fun (r : Int32) (_ : Unit) => r = σ 13 3) (fun _ t9 => pgR D cD cC A σ n ad t9.heap) A) 0 0 A := by
  refine pg_enter (own := RX2) (by decide) rfl (Nat.le_of_ble_eq_true rfl) (fun p e s m below meth cc9 B hr hnm => ?_)
  refine j_aload_n B dX2_logged_0 0 rfl rfl ?_
  refine j_get B (v := .int (σ 13 3)) pgX2 rfl (fun H h => pgR.x h) 5 (by decide) q_52 rfl rfl dX2_logged_1 ?_
  exact j_iret B hr rfl dX2_logged_4 (Nat.le_of_ble_eq_true rfl) (Nat.le_of_ble_eq_true rfl) () rfl (fun H h => h)
set_option maxHeartbeats 4000000 in
set_option maxRecDepth 100000 in
/-- certificates -/
theorem c_X2_certificates (l : Launch) (D : va_G) (cD cC cI cZ cL : ClassId) (A : Nat → Prop) (σ : pgSt) (n : Nat) (ad : Nat → Nat)  : Met l yX2_certificates (.code yX2_certificates cX2_certificates 1 (some .int) :: pgWd) ({ frames := 0, cells := 0, slots := 0, locals := 0 } : Room) (pgPc D (pgTys cD cC cI cZ cL) A (pgR D cD cC A σ n ad) [.ref (ad 0)]) (va_Qi (fun (r : Int32) (_ : Unit) => r = σ 13 4) (fun _ t9 => pgR D cD cC A σ n ad t9.heap) A) 0 0 A := by
  refine pg_enter (own := RX2) (by decide) rfl (Nat.le_of_ble_eq_true rfl) (fun p e s m below meth cc9 B hr hnm => ?_)
  refine j_aload_n B dX2_certificates_0 0 rfl rfl ?_
  refine j_get B (v := .int (σ 13 4)) pgX2 rfl (fun H h => pgR.x h) 6 (by decide) q_53 rfl rfl dX2_certificates_1 ?_
  exact j_iret B hr rfl dX2_certificates_4 (Nat.le_of_ble_eq_true rfl) (Nat.le_of_ble_eq_true rfl) () rfl (fun H h => h)
end
section
set_option maxHeartbeats 4000000 in
set_option maxRecDepth 100000 in
/-- Shredroll$Crate() -/
theorem c_X0_init (l : Launch) (D : va_G) (cD cC cI cZ cL : ClassId) (A : Nat → Prop) (q : Nat) (hAq : A q) (i : Int32) : Met l yX0_init (.code yX0_init cX0_init 2 none :: pgWd) ({ frames := 1, cells := 0, slots := 0, locals := 12 } : Room) (pgPc D (pgTys cD cC cI cZ cL) A (fun H => va_at D vwCl (q, .inr (0, [.int 0, .int 0, .int 0, .int 0])) H) [.ref q, .int i]) (va_Qv (fun (_ : Unit) => True) (fun _ t9 => (fun H => va_at D vwCl (q, .inr (0, [.int i, .int 0, .int (-1), .int 0])) H) t9.heap) A) 0 0 A := by
  refine pg_enter (own := RX0) (by decide) rfl (Nat.le_of_ble_eq_true rfl) (fun p e s m below meth cc9 B hr hnm => ?_)
  refine j_aload_n B dX0_init_0 0 rfl rfl ?_
  refine j_objInit B q_30 q_20 q_21 dX0_init_1 (Nat.le_of_ble_eq_true rfl) (Nat.le_of_ble_eq_true rfl) ?_
  refine j_aload_n B dX0_init_4 0 rfl rfl ?_
  refine j_iconst B (v := (-1)) dX0_init_5 (by decide) ?_
  refine j_put B (Wd' := fun H => va_at D vwCl (q, .inr (0, [.int 0, .int 0, .int (-1), .int 0])) H) pgX0 tyX0 tyX0_ok nmX0 rfl (fun H h => h) 2 (by decide) q_35 rfl rfl rfl rfl rfl (Nat.le_of_ble_eq_true rfl) dX0_init_6 hAq (fun H H1 h hc hz ho => hc) ?_
  refine j_aload_n B dX0_init_9 0 rfl rfl ?_
  refine j_iload_n B dX0_init_10 1 rfl rfl ?_
  refine j_putF B (Wd' := fun H => va_at D vwCl (q, .inr (0, [.int i, .int 0, .int (-1), .int 0])) H) pgX0 tyX0 tyX0_ok nmX0 rfl (fun H h => h) 0 (by decide) q_31 rfl rfl hnm rfl rfl rfl rfl (Nat.le_of_ble_eq_true rfl) dX0_init_11 hAq (fun H H1 h hc hz ho => hc) ?_
  exact j_vret B hr dX0_init_14 (Nat.le_of_ble_eq_true rfl) (Nat.le_of_ble_eq_true rfl) () trivial (fun H h => h)
set_option maxHeartbeats 4000000 in
set_option maxRecDepth 100000 in
/-- Shredroll$Disk() -/
theorem c_X1_init (l : Launch) (D : va_G) (cD cC cI cZ cL : ClassId) (A : Nat → Prop) (q : Nat) (hAq : A q) (k0 k1 : Int32) : Met l yX1_init (.code yX1_init cX1_init 3 none :: pgWd) ({ frames := 1, cells := 0, slots := 0, locals := 12 } : Room) (pgPc D (pgTys cD cC cI cZ cL) A (fun H => va_at D vwCl (q, .inr (1, [.int 0, .int 0, .int 0, .int 0, .null, .int 0, .int 0, .int 0, .int 0, .int 0, .int 0])) H) [.ref q, .int k0, .int k1]) (va_Qv (fun (_ : Unit) => True) (fun _ t9 => (fun H => va_at D vwCl (q, .inr (1, [.int k0, .int k1, .int 0, .int 0, .null, .int (-1), .int 0, .int (-1), .int 0, .int 0, .int (-1)])) H) t9.heap) A) 0 0 A := by
  refine pg_enter (own := RX1) (by decide) rfl (Nat.le_of_ble_eq_true rfl) (fun p e s m below meth cc9 B hr hnm => ?_)
  refine j_aload_n B dX1_init_0 0 rfl rfl ?_
  refine j_objInit B q_193 q_20 q_21 dX1_init_1 (Nat.le_of_ble_eq_true rfl) (Nat.le_of_ble_eq_true rfl) ?_
  refine j_aload_n B dX1_init_4 0 rfl rfl ?_
  refine j_iconst B (v := (-1)) dX1_init_5 (by decide) ?_
  refine j_put B (Wd' := fun H => va_at D vwCl (q, .inr (1, [.int 0, .int 0, .int 0, .int 0, .null, .int (-1), .int 0, .int 0, .int 0, .int 0, .int 0])) H) pgX1 tyX1 tyX1_ok nmX1 rfl (fun H h => h) 5 (by decide) q_202 rfl rfl rfl rfl rfl (Nat.le_of_ble_eq_true rfl) dX1_init_6 hAq (fun H H1 h hc hz ho => hc) ?_
  refine j_aload_n B dX1_init_9 0 rfl rfl ?_
  refine j_iconst B (v := 0) dX1_init_10 (by decide) ?_
  refine j_put B (Wd' := fun H => va_at D vwCl (q, .inr (1, [.int 0, .int 0, .int 0, .int 0, .null, .int (-1), .int 0, .int 0, .int 0, .int 0, .int 0])) H) pgX1 tyX1 tyX1_ok nmX1 rfl (fun H h => h) 6 (by decide) q_204 rfl rfl rfl rfl rfl (Nat.le_of_ble_eq_true rfl) dX1_init_11 hAq (fun H H1 h hc hz ho => hc) ?_
  refine j_aload_n B dX1_init_14 0 rfl rfl ?_
  refine j_iconst B (v := (-1)) dX1_init_15 (by decide) ?_
  refine j_put B (Wd' := fun H => va_at D vwCl (q, .inr (1, [.int 0, .int 0, .int 0, .int 0, .null, .int (-1), .int 0, .int (-1), .int 0, .int 0, .int 0])) H) pgX1 tyX1 tyX1_ok nmX1 rfl (fun H h => h) 7 (by decide) q_206 rfl rfl rfl rfl rfl (Nat.le_of_ble_eq_true rfl) dX1_init_16 hAq (fun H H1 h hc hz ho => hc) ?_
  refine j_aload_n B dX1_init_19 0 rfl rfl ?_
  refine j_iconst B (v := (-1)) dX1_init_20 (by decide) ?_
  refine j_put B (Wd' := fun H => va_at D vwCl (q, .inr (1, [.int 0, .int 0, .int 0, .int 0, .null, .int (-1), .int 0, .int (-1), .int 0, .int 0, .int (-1)])) H) pgX1 tyX1 tyX1_ok nmX1 rfl (fun H h => h) 10 (by decide) q_212 rfl rfl rfl rfl rfl (Nat.le_of_ble_eq_true rfl) dX1_init_21 hAq (fun H H1 h hc hz ho => hc) ?_
  refine j_aload_n B dX1_init_24 0 rfl rfl ?_
  refine j_iload_n B dX1_init_25 1 rfl rfl ?_
  refine j_putF B (Wd' := fun H => va_at D vwCl (q, .inr (1, [.int k0, .int 0, .int 0, .int 0, .null, .int (-1), .int 0, .int (-1), .int 0, .int 0, .int (-1)])) H) pgX1 tyX1 tyX1_ok nmX1 rfl (fun H h => h) 0 (by decide) q_194 rfl rfl hnm rfl rfl rfl rfl (Nat.le_of_ble_eq_true rfl) dX1_init_26 hAq (fun H H1 h hc hz ho => hc) ?_
  refine j_aload_n B dX1_init_29 0 rfl rfl ?_
  refine j_iload_n B dX1_init_30 2 rfl rfl ?_
  refine j_putF B (Wd' := fun H => va_at D vwCl (q, .inr (1, [.int k0, .int k1, .int 0, .int 0, .null, .int (-1), .int 0, .int (-1), .int 0, .int 0, .int (-1)])) H) pgX1 tyX1 tyX1_ok nmX1 rfl (fun H h => h) 1 (by decide) q_196 rfl rfl hnm rfl rfl rfl rfl (Nat.le_of_ble_eq_true rfl) dX1_init_31 hAq (fun H H1 h hc hz ho => hc) ?_
  exact j_vret B hr dX1_init_34 (Nat.le_of_ble_eq_true rfl) (Nat.le_of_ble_eq_true rfl) () trivial (fun H h => h)
theorem j_re {p : Program} {l : Launch} {e : Env} {R : Room} {s : State} {m : MethodId} {args : Array Value} {below : List Frame} {meth : Method} {c : Code} {nL : Nat} {A : Nat → Prop} {Wd : Heap → Prop} {cells slots : Nat} {Q : State → Prop} {pc : Nat} {L L' : List (Nat × Value)} {st : List Value} (h : L = L') (kk : pgJ p l e R s m args below meth c nL A Wd cells slots Q pc L' st) : pgJ p l e R s m args below meth c nL A Wd cells slots Q pc L st := h ▸ kk
/-- a new disk's places -/
def pgNewD (σ : pgSt) (n : Nat) (kind secr : Int32) : pgSt := fun t j => if (t < 10 ∨ t = 14) ∧ j = n then (if t = 0 then kind else if t = 1 then secr else if t = 3 ∨ t = 6 ∨ t = 7 ∨ t = 9 then -1 else 0) else σ t j
section PGD
variable {D : va_G} {cD cC : ClassId} {A : Nat → Prop} {σ : pgSt} {n : Nat} {ad : Nat → Nat} {H H1 : Heap} {q : Nat} {x : va_E} {kind secr : Int32}
theorem pgFresh_R (h : pgFresh D (pgR D cD cC A σ n ad) q x H) : pgR D cD cC A σ n ad H ∧ va_at D vwCl (q, x) H ∧ ∀ k, k < 13 + n → ad k ≠ q := by
  obtain ⟨H0, h0, e0, -, ho, hx⟩ := h
  refine ⟨h0.more (fun z hz => ho z (by omega)), hx, fun k hk => ?_⟩
  have := h0.lt hk
  omega
theorem pgNewD_o {t j : Nat} (h : j ≠ n) : pgNewD σ n kind secr t j = σ t j := by simp [pgNewD, h]
theorem pgNewD_t {t j : Nat} (h : ¬ (t < 10 ∨ t = 14)) : pgNewD σ n kind secr t j = σ t j := by simp [pgNewD, h]
theorem pgR.push (h : pgR D cD cC A σ n ad H) (hn : n < 60) (hcr : pgCr n σ) (hq : va_at D vwCl (q, .inr (1, [.int kind, .int secr, .int 0, .int 0, .null, .int (-1), .int 0, .int (-1), .int 0, .int 0, .int (-1)])) H) (hne : ∀ k, k < 13 + n → ad k ≠ q) (hA : A q)
    (hb : va_at D vwCl (ad 1, .inl (cD, 60, .inr (.inr (.inr (.inr (va_up (pgBd n ad) n (some q))))))) H1) (ho : ∀ z : Nat, z ≠ ad 1 → H1[z]? = H[z]?) : pgR D cD cC A (pgNewD σ n kind secr) (n + 1) (va_up ad (13 + n) q) H1 := by
  have old : ∀ k, k < 13 + n → va_up ad (13 + n) q k = ad k := fun k hk => va_up_ne _ _ (by omega)
  have new : va_up ad (13 + n) q (13 + n) = q := va_up_self _ _ _
  refine ⟨fun k hk => ?_, fun a b ha hb2 hab => ?_, fun k hk => ?_⟩
  · by_cases e : k = 13 + n
    · subst e
      rw [new, pgO_dk]
      have hz : q ≠ ad 1 := fun z => hne 1 (by omega) z.symm
      have h2 := hq.kept (H1 := H1) (ho q hz)
      have e2 : pgDv (va_up ad (13 + n) q) (pgNewD σ n kind secr) n = [.int kind, .int secr, .int 0, .int 0, .null, .int (-1), .int 0, .int (-1), .int 0, .int 0, .int (-1)] := by
        simp [pgNewD, pgCv]
      rw [e2]
      exact h2
    · have hk2 : k < 13 + n := by omega
      rw [old k hk2]
      by_cases e1 : k = 1
      · subst e1
        have e3 : pgO cD cC (pgNewD σ n kind secr) (n + 1) (va_up ad (13 + n) q) 1 = .inl (cD, 60, .inr (.inr (.inr (.inr (pgBd (n + 1) (va_up ad (13 + n) q)))))) := rfl
        rw [e3]
        refine pg_refs hb (fun j hj => ?_)
        unfold pgBd va_up
        by_cases ej : j = n
        · subst ej
          simp
        · have e4 : 13 + j ≠ 13 + n := by omega
          have e5 : (j < n + 1) = (j < n) := by apply propext; omega
          simp only [ej, e4, e5, if_false]
      · have hka : ad k ≠ ad 1 := fun z => e1 (h.2.1 k 1 hk2 (by omega) z)
        have h3 := (h.1 k hk2).kept (H1 := H1) (ho _ hka)
        by_cases e0 : k = 0
        · subst e0
          have e6 : pgO cD cC (pgNewD σ n kind secr) (n + 1) (va_up ad (13 + n) q) 0 = pgO cD cC σ n ad 0 := by
            show Sum.inr (2, pgXv _ _) = Sum.inr (2, pgXv _ _)
            simp only [pgXv, old 1 (by omega), old 2 (by omega), pgNewD_t (show ¬ (13 < 10 ∨ 13 = 14) by omega)]
          rw [e6]
          exact h3
        · by_cases e2 : k = 2
          · subst e2
            have e7 : pgO cD cC (pgNewD σ n kind secr) (n + 1) (va_up ad (13 + n) q) 2 = .inl (cC, 10, .inr (.inr (.inr (.inr (fun i => some (va_up ad (13 + n) q (3 + i))))))) := rfl
            have e8 : pgO cD cC σ n ad 2 = .inl (cC, 10, .inr (.inr (.inr (.inr (fun i => some (ad (3 + i))))))) := rfl
            rw [e7]
            rw [e8] at h3
            exact pg_refs h3 (fun j hj => by rw [old (3 + j) (by omega)])
          · by_cases e3 : k < 13
            · have e9 : pgO cD cC (pgNewD σ n kind secr) (n + 1) (va_up ad (13 + n) q) k = pgO cD cC σ n ad k := by
                unfold pgO
                simp only [if_neg e0, if_neg e1, if_neg e2, if_pos e3, pgKv, pgNewD_t (show ¬ (10 < 10 ∨ 10 = 14) by omega), pgNewD_t (show ¬ (11 < 10 ∨ 11 = 14) by omega), pgNewD_t (show ¬ (12 < 10 ∨ 12 = 14) by omega)]
              rw [e9]
              exact h3
            · have hj : k - 13 < n := by omega
              have hjn : k - 13 ≠ n := by omega
              have ecv : pgCv (va_up ad (13 + n) q) (σ 3 (k - 13)) = pgCv ad (σ 3 (k - 13)) := by
                rcases hcr _ hj with z | ⟨c, hc, z⟩
                · rw [pgCv_null z, pgCv_null z]
                · rw [pgCv_ref hc z, pgCv_ref hc z, old (3 + c) (by omega)]
              have e9 : pgO cD cC (pgNewD σ n kind secr) (n + 1) (va_up ad (13 + n) q) k = pgO cD cC σ n ad k := by
                unfold pgO
                simp only [if_neg e0, if_neg e1, if_neg e2, if_neg e3, pgDv, pgNewD_o hjn, ecv]
              rw [e9]
              exact h3
  · by_cases ea : a = 13 + n <;> by_cases eb : b = 13 + n
    · omega
    · rw [ea, new, old b (by omega)] at hab
      exact absurd hab.symm (hne b (by omega))
    · rw [eb, new, old a (by omega)] at hab
      exact absurd hab (hne a (by omega))
    · rw [old a (by omega), old b (by omega)] at hab
      exact h.2.1 a b (by omega) (by omega) hab
  · by_cases e : k = 13 + n
    · rw [e, new]; exact hA
    · rw [old k (by omega)]; exact h.2.2 k (by omega)
end PGD
theorem sp_bring_eq {n : Nat} {σ : pgSt} {kind secr keeper : Int32} (hI : pgI n σ) (hk : pgIsK keeper) (h1 : 0 ≤ kind ∧ kind < 3 ∧ 0 ≤ secr ∧ secr < 4) (h2 : σ 13 0 < 60) : sp_bring σ kind secr keeper = (0, σ 13 0, pgHo (pgU (pgNewD σ n kind secr) 13 0 (σ 13 0 + 1)) n keeper) := by
  have hn : ix (σ 13 0) = n := pgI_n hI
  have hz := hI.2.2.2.2.1 n (Nat.le_refl n)
  unfold sp_bring
  rw [if_neg (by simpa using hk), if_neg (by simpa using h1), if_neg (by simpa using h2)]
  congr 2
  funext t j
  simp only [hn, pgHo, pgU, pgNewD]
  grind (splits := 40)
theorem pgI_0 {n : Nat} {σ : pgSt} (hI : pgI n σ) : ¬ σ 13 0 < 0 := by
  rw [hI.2.1]
  exact nI_pos (by have := hI.1; omega)
set_option maxHeartbeats 4000000 in
set_option maxRecDepth 100000 in
/-- bring -/
theorem c_X2_bring (l : Launch) (hl : l.stackTraces = false) (D : va_G) (cD cC cI cZ cL : ClassId) (A : Nat → Prop) (σ : pgSt) (n : Nat) (ad : Nat → Nat) (hI : pgI n σ) (kind secr keeper : Int32) : vx_Met l yX2_bring (.code yX2_bring cX2_bring 6 (some .int) :: pgWd) ({ frames := 7, cells := 3, slots := 23, locals := 102 } : Room) (pgPc D (pgTys cD cC cI cZ cL) A (pgR D cD cC A σ n ad) [.ref (ad 0), .int kind, .int secr, .int keeper]) (va_Qi (fun (r : Int32) (u : Nat → Nat) => (sp_bring σ kind secr keeper).1 = 0 ∧ r = (sp_bring σ kind secr keeper).2.1 ∧ u 0 = ad 0) (fun u t9 => pgR D cD cC A ((sp_bring σ kind secr keeper).2.2) (n + 1) u t9.heap) A) (pgX A (fun k => (sp_bring σ kind secr keeper).1 = k ∧ k ≠ 0) (pgR D cD cC A σ n ad)) 3 23 A := by
  refine pg_enterX (own := RX2) (by decide) rfl (Nat.le_of_ble_eq_true rfl) (fun p e s m below meth cc9 B hr hnm ht => ?_)
  refine j_fact (fun H h => pgR.inA h) (fun hIn => ?_)
  refine j_iload_n B dX2_bring_0 3 rfl rfl ?_
  refine j_xSv B 1 [.int keeper] ht (S := Unit) (WdC' := fun _ => pgR D cD cC A σ n ad)  (c_X2_requireKeeper l hl D cD cC cI cZ cL A σ n ad keeper) q_83 q_84 q_1 q_85 hdX2_requireKeeper rfl ⟨Nat.le_of_ble_eq_true rfl, Nat.le_of_ble_eq_true rfl⟩ (Nat.le_of_ble_eq_true rfl) dX2_bring_1 rfl ⟨Nat.le_of_ble_eq_true rfl, Nat.le_of_ble_eq_true rfl⟩ (Nat.le_of_ble_eq_true rfl) (Nat.le_of_ble_eq_true rfl) (fun k h => by obtain ⟨rfl, h9⟩ := h; simp only [sp_bring]; grind) (fun H h => h) (fun u1 hp2 => ?_)
  refine j_iload_n B dX2_bring_4 1 rfl rfl ?_
  refine j_if_lt B 22 dX2_bring_5 (by decide) (fun h3 => ?_) (fun h3 => ?_)
  · exact j_throw (k := 2) pgTA pgTA2 pgTA3 rfl q_157 q_7 rfl B hl ht (is := 29) (text := "kind or secrecy is out of range") (by decide) dX2_bring_22 dX2_bring_25 dX2_bring_26 dX2_bring_28 dX2_bring_31 (Nat.le_of_ble_eq_true rfl) (Nat.le_of_ble_eq_true rfl) (Nat.le_of_ble_eq_true rfl) (Nat.le_of_ble_eq_true rfl) (Nat.le_of_ble_eq_true rfl) (Nat.le_of_ble_eq_true rfl) (by simp only [sp_bring]; grind) (fun H H1 h hq => pgR.more h hq)
  · refine j_iload_n B dX2_bring_8 1 rfl rfl ?_
    refine j_iconst B (v := 3) dX2_bring_9 (by decide) ?_
    refine j_icmp_ge B 22 dX2_bring_10 (by decide) (fun h4 => ?_) (fun h4 => ?_)
    · exact j_throw (k := 2) pgTA pgTA2 pgTA3 rfl q_157 q_7 rfl B hl ht (is := 29) (text := "kind or secrecy is out of range") (by decide) dX2_bring_22 dX2_bring_25 dX2_bring_26 dX2_bring_28 dX2_bring_31 (Nat.le_of_ble_eq_true rfl) (Nat.le_of_ble_eq_true rfl) (Nat.le_of_ble_eq_true rfl) (Nat.le_of_ble_eq_true rfl) (Nat.le_of_ble_eq_true rfl) (Nat.le_of_ble_eq_true rfl) (by simp only [sp_bring]; grind) (fun H H1 h hq => pgR.more h hq)
    · refine j_iload_n B dX2_bring_13 2 rfl rfl ?_
      refine j_if_lt B 22 dX2_bring_14 (by decide) (fun h5 => ?_) (fun h5 => ?_)
      · exact j_throw (k := 2) pgTA pgTA2 pgTA3 rfl q_157 q_7 rfl B hl ht (is := 29) (text := "kind or secrecy is out of range") (by decide) dX2_bring_22 dX2_bring_25 dX2_bring_26 dX2_bring_28 dX2_bring_31 (Nat.le_of_ble_eq_true rfl) (Nat.le_of_ble_eq_true rfl) (Nat.le_of_ble_eq_true rfl) (Nat.le_of_ble_eq_true rfl) (Nat.le_of_ble_eq_true rfl) (Nat.le_of_ble_eq_true rfl) (by simp only [sp_bring]; grind) (fun H H1 h hq => pgR.more h hq)
      · refine j_iload_n B dX2_bring_17 2 rfl rfl ?_
        refine j_iconst B (v := 4) dX2_bring_18 (by decide) ?_
        refine j_icmp_lt B 32 dX2_bring_19 (by decide) (fun h6 => ?_) (fun h6 => ?_)
        · refine j_aload_n B dX2_bring_32 0 rfl rfl ?_
          refine j_get B (v := .int (σ 13 0)) pgX2 rfl (fun H h => pgR.x h) 2 (by decide) q_49 rfl rfl dX2_bring_33 ?_
          refine j_if_lt B 51 dX2_bring_36 (by decide) (fun h7 => (absurd h7 (pgI_0 hI))) (fun h7 => ?_)
          refine j_aload_n B dX2_bring_39 0 rfl rfl ?_
          refine j_get B (v := .int (σ 13 0)) pgX2 rfl (fun H h => pgR.x h) 2 (by decide) q_49 rfl rfl dX2_bring_40 ?_
          refine j_aload_n B dX2_bring_43 0 rfl rfl ?_
          refine j_get B (v := .ref (ad 1)) pgX2 rfl (fun H h => pgR.x h) 0 (by decide) q_47 rfl rfl dX2_bring_44 ?_
          refine j_alen B (fun H h => pgR.bd h) 0 rfl (v := 60) rfl dX2_bring_47 ?_
          refine j_icmp_lt B 61 dX2_bring_48 (by decide) (fun h8 => ?_) (fun h8 => ?_)
          · have hn60 : n < 60 := by
              have q1 : nI n < nI 60 := by rw [← hI.2.1]; assumption
              exact (nI_ltI (a := n) (b := 60) (by have := hI.1; omega) (by omega)).mp q1
            refine j_new B (ci := 1) (fs := [.int 0, .int 0, .int 0, .int 0, .null, .int 0, .int 0, .int 0, .int 0, .int 0, .int 0]) pgX1 tyX1 tyX1_ok q_22 q_189 q_9 rfl (fun j hj => by rcases (show j = 0 ∨ j = 1 ∨ j = 2 ∨ j = 3 ∨ j = 4 ∨ j = 5 ∨ j = 6 ∨ j = 7 ∨ j = 8 ∨ j = 9 ∨ j = 10 by omega) with rfl | rfl | rfl | rfl | rfl | rfl | rfl | rfl | rfl | rfl | rfl <;> rfl) (Nat.le_of_ble_eq_true rfl) (Nat.le_of_ble_eq_true rfl) dX2_bring_61 (fun q hAq => ?_)
            refine j_world (Wd' := fun H => pgR D cD cC A σ n ad H ∧ va_at D vwCl (q, .inr (1, [.int 0, .int 0, .int 0, .int 0, .null, .int 0, .int 0, .int 0, .int 0, .int 0, .int 0])) H ∧ ∀ k, k < 13 + n → ad k ≠ q) (fun H h => pgFresh_R h) ?_
            refine j_fact (fun H h => h.2.2) (fun hne => ?_)
            refine j_dup B dX2_bring_64 rfl ?_
            refine j_iload_n B dX2_bring_65 1 rfl rfl ?_
            refine j_iload_n B dX2_bring_66 2 rfl rfl ?_
            refine j_cIv B (S := Unit) (b := q) 2 [.int kind, .int secr] (WdC' := fun _ H => va_at D vwCl (q, .inr (1, [.int kind, .int secr, .int 0, .int 0, .null, .int (-1), .int 0, .int (-1), .int 0, .int 0, .int (-1)])) H) (fun _ => fun H => pgR D cD cC A σ n ad H ∧ va_at D vwCl (q, .inr (1, [.int kind, .int secr, .int 0, .int 0, .null, .int (-1), .int 0, .int (-1), .int 0, .int 0, .int (-1)])) H ∧ ∀ k, k < 13 + n → ad k ≠ q) (c_X1_init l D cD cC cI cZ cL (fun z => A z ∧ ∀ k, k < 13 + n → z ≠ ad k) q ⟨hAq, fun k hk => (hne k hk).symm⟩ kind secr) q_190 q_191 q_9 q_192 rfl hdX1_init rfl ⟨Nat.le_of_ble_eq_true rfl, Nat.le_of_ble_eq_true rfl⟩ (Nat.le_of_ble_eq_true rfl) dX2_bring_67 rfl ⟨Nat.le_of_ble_eq_true rfl, Nat.le_of_ble_eq_true rfl⟩ (fun z h => h.1) (fun H h z hz hA => ⟨hA, fun k hk9 e => by have := pgR.lt h.1 hk9; omega⟩) (fun H h => h.2.1) (fun H H1 u h hc hz hk => ⟨pgR.kept h.1 (fun k hk9 => hk _ (pgR.lt h.1 hk9) (fun z => z.2 k hk9 rfl)), hc, h.2.2⟩) (fun _ _ => ?_)
            refine j_astore B (L' := [(4, .ref q), (0, .ref (ad 0)), (1, .int kind), (2, .int secr), (3, .int keeper)]) dX2_bring_70 (by decide) rfl ?_
            refine j_aload_n B dX2_bring_72 1 rfl rfl ?_
            refine j_get B (v := .int (σ 13 0)) pgX2 rfl (fun H h => pgR.x h.1) 2 (by decide) q_49 rfl rfl dX2_bring_73 ?_
            refine j_istore B (L' := [(5, .int (σ 13 0)), (4, .ref q), (0, .ref (ad 0)), (1, .int kind), (2, .int secr), (3, .int keeper)]) dX2_bring_76 (by decide) rfl ?_
            refine j_aload_n B dX2_bring_78 2 rfl rfl ?_
            refine j_get B (v := .ref (ad 1)) pgX2 rfl (fun H h => pgR.x h.1) 0 (by decide) q_47 rfl rfl dX2_bring_79 ?_
            refine j_iload B dX2_bring_82 0 rfl ?_
            refine j_aload B dX2_bring_84 1 rfl ?_
            refine j_aast B (Wd' := pgR D cD cC A (pgNewD σ n kind secr) (n + 1) (va_up ad (13 + n) q)) (fun H h => pgR.bd h.1) 0 rfl (fun H h => h.2.1) rfl (by rw [hI.2.1]; exact vp_in_nI hn60 (by omega)) dX2_bring_86 (hIn 1 (by omega)) (fun H H1 h hc hz ho => pgR.push h.1 hn60 hI.2.2.1 h.2.1 hne hAq (by rw [show (σ 13 0).toNatClampNeg = n from pgI_n hI] at hc; exact hc) ho) ?_
            obtain ⟨ad2, had2⟩ : ∃ z, z = va_up ad (13 + n) q := ⟨_, rfl⟩
            have e0 : ad 0 = ad2 0 := by rw [had2]; exact (va_up_ne _ _ (by omega)).symm
            have eq2 : q = ad2 (13 + n) := by rw [had2]; exact (va_up_self _ _ _).symm
            rw [← had2]
            refine j_re (L' := [(5, .int (σ 13 0)), (4, .ref (ad2 (13 + n))), (0, .ref (ad2 0)), (1, .int kind), (2, .int secr), (3, .int keeper)]) (by rw [e0, eq2]) ?_
            refine j_fact (fun H h => pgR.inA h) (fun hIn => ?_)
            refine j_aload_n B dX2_bring_87 2 rfl rfl ?_
            refine j_dup B dX2_bring_88 rfl ?_
            refine j_get B (v := .int ((pgNewD σ n kind secr) 13 0)) pgX2 rfl (fun H h => pgR.x h) 2 (by decide) q_49 rfl rfl dX2_bring_89 ?_
            refine j_iconst B (v := 1) dX2_bring_92 (by decide) ?_
            refine j_iadd B dX2_bring_93 ?_
            refine j_put B (Wd' := pgR D cD cC A (pgU (pgNewD σ n kind secr) 13 0 (((pgNewD σ n kind secr) 13 0) + 1)) (n + 1) ad2) pgX2 tyX2 tyX2_ok nmX2 rfl (fun H h => pgR.x h) 2 (by decide) q_49 rfl rfl rfl rfl rfl (Nat.le_of_ble_eq_true rfl) dX2_bring_94 (hIn 0 (by omega)) (fun H H1 h hc hz ho => pgR.putX h pgXs2 hc ho) ?_
            refine j_aload_n B dX2_bring_97 2 rfl rfl ?_
            refine j_aload B dX2_bring_98 1 rfl ?_
            refine j_iload_n B dX2_bring_100 5 rfl rfl ?_
            refine j_cVv B (S := Unit) 2 [.ref (ad2 (13 + n)), .int keeper] (WdC' := fun _ => pgR D cD cC A (pgHo (pgU (pgNewD σ n kind secr) 13 0 (((pgNewD σ n kind secr) 13 0) + 1)) n keeper) (n + 1) ad2) (fun _ => pgR D cD cC A (pgHo (pgU (pgNewD σ n kind secr) 13 0 (((pgNewD σ n kind secr) 13 0) + 1)) n keeper) (n + 1) ad2) (c_X2_handOver l D cD cC cI cZ cL A (pgU (pgNewD σ n kind secr) 13 0 (((pgNewD σ n kind secr) 13 0) + 1)) (n + 1) ad2 n (Nat.lt_succ_self n) keeper) rfl (fun H h => pgR.x h) q_237 q_239 q_p1 q_1 q_240 hdX2_handOver rfl ⟨Nat.le_of_ble_eq_true rfl, Nat.le_of_ble_eq_true rfl⟩ (Nat.le_of_ble_eq_true rfl) dX2_bring_101 rfl ⟨Nat.le_of_ble_eq_true rfl, Nat.le_of_ble_eq_true rfl⟩ (fun _ h => h) (fun _ _ _ _ h => h) (fun _ h => h) (fun _ _ _ _ h _ _ => h) (fun _ _ => ?_)
            refine j_iload B dX2_bring_104 0 rfl ?_
            have e9 := sp_bring_eq (kind := kind) (secr := secr) (keeper := keeper) hI (by assumption) (by grind) (by assumption)
            exact j_x (j_iret B hr rfl dX2_bring_106 (Nat.le_of_ble_eq_true rfl) (Nat.le_of_ble_eq_true rfl) ad2 ⟨by rw [e9], by rw [e9], e0.symm⟩ (fun H h => pgR.eq h (by rw [e9]; rfl)))
          · exact j_throw (k := 3) pgTS pgTS2 pgTS3 rfl q_173 q_8 rfl B hl ht (is := 40) (text := "no more disks can be brought") (by decide) dX2_bring_51 dX2_bring_54 dX2_bring_55 dX2_bring_57 dX2_bring_60 (Nat.le_of_ble_eq_true rfl) (Nat.le_of_ble_eq_true rfl) (Nat.le_of_ble_eq_true rfl) (Nat.le_of_ble_eq_true rfl) (Nat.le_of_ble_eq_true rfl) (Nat.le_of_ble_eq_true rfl) (by have q9 := hI; simp only [sp_bring]; grind) (fun H H1 h hq => pgR.more h hq)
        · exact j_throw (k := 2) pgTA pgTA2 pgTA3 rfl q_157 q_7 rfl B hl ht (is := 29) (text := "kind or secrecy is out of range") (by decide) dX2_bring_22 dX2_bring_25 dX2_bring_26 dX2_bring_28 dX2_bring_31 (Nat.le_of_ble_eq_true rfl) (Nat.le_of_ble_eq_true rfl) (Nat.le_of_ble_eq_true rfl) (Nat.le_of_ble_eq_true rfl) (Nat.le_of_ble_eq_true rfl) (Nat.le_of_ble_eq_true rfl) (by simp only [sp_bring]; grind) (fun H H1 h hq => pgR.more h hq)
theorem pgB.ao1 {p : Program} {m : MethodId} {c : Code} {s : State} {args : Array Value} {meth : Method} {own : String} {cc : ByteArray} {nL : Nat} {D : va_G} {tys : List (ClassId × FieldType)} {A : Nat → Prop} (B : pgB p m c s args meth own cc nL D tys A) : va_AO RX1 s := B.2.2.2.2.2.2.2.2.2.2.1.2.1
theorem pgB.ao0 {p : Program} {m : MethodId} {c : Code} {s : State} {args : Array Value} {meth : Method} {own : String} {cc : ByteArray} {nL : Nat} {D : va_G} {tys : List (ClassId × FieldType)} {A : Nat → Prop} (B : pgB p m c s args meth own cc nL D tys A) : va_AO RX0 s := B.2.2.2.2.2.2.2.2.2.2.1.2.2
def pgS0 : pgSt := fun t j => if t = 11 ∧ j < 10 then -1 else 0
/-- the object with its two arrays and i crates -/
def pgR0 (D : va_G) (cD cC : ClassId) (A : Nat → Prop) (ad : Nat → Nat) (i : Nat) (H : Heap) : Prop :=
  va_at D vwCl (ad 0, .inr (2, [.ref (ad 1), .ref (ad 2), .int 0, .int 0, .int 0, .int 0, .int 0])) H ∧ va_at D vwCl (ad 1, .inl (cD, 60, .inr (.inr (.inr (.inr (fun _ => none)))))) H ∧ va_at D vwCl (ad 2, .inl (cC, 10, .inr (.inr (.inr (.inr (fun j => if j < i then some (ad (3 + j)) else none)))))) H ∧ (∀ c, c < i → va_at D vwCl (ad (3 + c), .inr (0, [.int (nI c), .int 0, .int (-1), .int 0])) H) ∧ (∀ a b, a < 3 + i → b < 3 + i → ad a = ad b → a = b) ∧ (∀ k, k < 3 + i → A (ad k))
theorem pgR0.lt {D : va_G} {cD cC : ClassId} {A : Nat → Prop} {ad : Nat → Nat} {i : Nat} {H : Heap} (h : pgR0 D cD cC A ad i H) : ∀ k, k < 3 + i → ad k < H.size := by
  intro k hk
  by_cases h0 : k = 0
  · subst h0; exact h.1.lt
  · by_cases h1 : k = 1
    · subst h1; exact h.2.1.lt
    · by_cases h2 : k = 2
      · subst h2; exact h.2.2.1.lt
      · have := (h.2.2.2.1 (k - 3) (by omega)).lt
        rw [show 3 + (k - 3) = k by omega] at this
        exact this
theorem pgR0.kept {D : va_G} {cD cC : ClassId} {A : Nat → Prop} {ad : Nat → Nat} {i : Nat} {H H1 : Heap} (h : pgR0 D cD cC A ad i H) (hq : ∀ k, k < 3 + i → H1[ad k]? = H[ad k]?) : pgR0 D cD cC A ad i H1 :=
  ⟨h.1.kept (hq 0 (by omega)), h.2.1.kept (hq 1 (by omega)), h.2.2.1.kept (hq 2 (by omega)), fun c hc => (h.2.2.2.1 c hc).kept (hq (3 + c) (by omega)), h.2.2.2.2⟩
theorem pgR0.push {D : va_G} {cD cC : ClassId} {A : Nat → Prop} {ad : Nat → Nat} {i q : Nat} {H H1 : Heap} (h : pgR0 D cD cC A ad i H) (hq : va_at D vwCl (q, .inr (0, [.int (nI i), .int 0, .int (-1), .int 0])) H) (hne : ∀ k, k < 3 + i → ad k ≠ q) (hA : A q) (hb : va_at D vwCl (ad 2, .inl (cC, 10, .inr (.inr (.inr (.inr (va_up (fun j => if j < i then some (ad (3 + j)) else none) i (some q))))))) H1) (ho : ∀ z : Nat, z ≠ ad 2 → H1[z]? = H[z]?) : pgR0 D cD cC A (va_up ad (3 + i) q) (i + 1) H1 := by
  have old : ∀ k, k < 3 + i → va_up ad (3 + i) q k = ad k := fun k hk => va_up_ne _ _ (by omega)
  have new : va_up ad (3 + i) q (3 + i) = q := va_up_self _ _ _
  have k2 : ∀ k, k < 3 + i → k ≠ 2 → H1[ad k]? = H[ad k]? := fun k hk h2 => ho _ (fun z => h2 (h.2.2.2.2.1 k 2 hk (by omega) z))
  refine ⟨?_, ?_, ?_, fun c hc => ?_, fun a b ha hb2 hab => ?_, fun k hk => ?_⟩
  · rw [old 0 (by omega), old 1 (by omega), old 2 (by omega)]
    exact h.1.kept (k2 0 (by omega) (by omega))
  · rw [old 1 (by omega)]
    exact h.2.1.kept (k2 1 (by omega) (by omega))
  · rw [old 2 (by omega)]
    refine pg_refs hb (fun j hj => ?_)
    unfold va_up
    by_cases e : j = i
    · subst e; simp
    · have e4 : 3 + j ≠ 3 + i := by omega
      have e5 : (j < i + 1) = (j < i) := by apply propext; omega
      simp only [e, e4, e5, if_false]
  · by_cases e : c = i
    · subst e
      rw [new]
      exact hq.kept (ho q (fun z => hne 2 (by omega) z.symm))
    · rw [old (3 + c) (by omega)]
      exact (h.2.2.2.1 c (by omega)).kept (k2 (3 + c) (by omega) (by omega))
  · by_cases ea : a = 3 + i <;> by_cases eb : b = 3 + i
    · omega
    · rw [ea, new, old b (by omega)] at hab
      exact absurd hab.symm (hne b (by omega))
    · rw [eb, new, old a (by omega)] at hab
      exact absurd hab (hne a (by omega))
    · rw [old a (by omega), old b (by omega)] at hab
      exact h.2.2.2.2.1 a b (by omega) (by omega) hab
  · by_cases e : k = 3 + i
    · rw [e, new]; exact hA
    · rw [old k (by omega)]; exact h.2.2.2.2.2 k (by omega)
theorem pgR0.done {D : va_G} {cD cC : ClassId} {A : Nat → Prop} {ad : Nat → Nat} {H : Heap} (h : pgR0 D cD cC A ad 10 H) : pgR D cD cC A pgS0 0 ad H := by
  refine ⟨fun k hk => ?_, h.2.2.2.2.1, h.2.2.2.2.2⟩
  by_cases h0 : k = 0
  · subst h0; exact h.1
  · by_cases h1 : k = 1
    · subst h1
      exact pg_refs h.2.1 (fun j hj => by simp)
    · by_cases h2 : k = 2
      · subst h2
        exact pg_refs h.2.2.1 (fun j hj => by simp [hj])
      · have h3 := h.2.2.2.1 (k - 3) (by omega)
        rw [show 3 + (k - 3) = k by omega] at h3
        have e : pgO cD cC pgS0 0 ad k = .inr (0, [.int (nI (k - 3)), .int 0, .int (-1), .int 0]) := by
          unfold pgO
          rw [if_neg h0, if_neg h1, if_neg h2, if_pos (by omega)]
          simp [pgS0, show k - 3 < 10 by omega]
        rw [e]
        exact h3
theorem pgFresh_R0 {D : va_G} {cD cC : ClassId} {A : Nat → Prop} {ad : Nat → Nat} {i q : Nat} {x : va_E} {H : Heap} (h : pgFresh D (pgR0 D cD cC A ad i) q x H) : pgR0 D cD cC A ad i H ∧ va_at D vwCl (q, x) H ∧ ∀ k, k < 3 + i → ad k ≠ q := by
  obtain ⟨H0, h0, e0, -, ho, hx⟩ := h
  refine ⟨h0.kept (fun k hk => ho _ (by have := h0.lt k hk; omega)), hx, fun k hk => ?_⟩
  have := h0.lt k hk
  omega
theorem j_loopC {p : Program} {l : Launch} {e : Env} {R : Room} {s : State} {m : MethodId} {args : Array Value} {below : List Frame} {meth : Method} {c : Code} {nL : Nat} {A : Nat → Prop} {Q : State → Prop} {pc : Nat} {st : List Value} {X : Type} {N : Nat} (ce sl : Nat → Nat) (inv : Nat → X → Prop) (WdX : Nat → X → Heap → Prop) (LX : Nat → X → List (Nat × Value)) (step : ∀ (i : Nat) (x : X), i ≤ N → inv i x → (i < N → ∀ x2 : X, inv (i + 1) x2 → pgJ p l e R s m args below meth c nL A (WdX (i + 1) x2) (ce (i + 1)) (sl (i + 1)) Q pc (LX (i + 1) x2) st) → pgJ p l e R s m args below meth c nL A (WdX i x) (ce i) (sl i) Q pc (LX i x) st) : ∀ (i : Nat) (x : X), i ≤ N → inv i x → pgJ p l e R s m args below meth c nL A (WdX i x) (ce i) (sl i) Q pc (LX i x) st := by
  have key : ∀ (f i : Nat) (x : X), i ≤ N → N ≤ i + f → inv i x → pgJ p l e R s m args below meth c nL A (WdX i x) (ce i) (sl i) Q pc (LX i x) st := by
    intro f
    induction f with
    | zero =>
      intro i x h1 h2 h3
      exact step i x h1 h3 (fun h => by omega)
    | succ f ih =>
      intro i x h1 h2 h3
      exact step i x h1 h3 (fun h x2 hx2 => ih (i + 1) x2 (by omega) (by omega) hx2)
  exact fun i x h1 h3 => key N i x h1 (by omega) h3
set_option maxHeartbeats 4000000 in
set_option maxRecDepth 100000 in
/-- Shredroll() -/
theorem c_X2_init (l : Launch) (D : va_G) (cD cC cI cZ cL : ClassId) (A : Nat → Prop) (q : Nat) (hAq : A q) : Met l yX2_init (.code yX2_init cX2_init 2 none :: pgWd) ({ frames := 2, cells := 12, slots := 117, locals := 33 } : Room) (pgPc D (pgTys cD cC cI cZ cL) A (fun H => va_at D vwCl (q, .inr (2, [.null, .null, .int 0, .int 0, .int 0, .int 0, .int 0])) H) [.ref q]) (va_Qv (fun (u : Nat → Nat) => u 0 = q) (fun u t9 => pgR D cD cC A pgS0 0 u t9.heap) A) 12 117 A := by
  refine pg_enter (own := RX2) (by decide) rfl (Nat.le_of_ble_eq_true rfl) (fun p e s m below meth cc9 B hr hnm => ?_)
  refine j_aload_n B dX2_init_0 0 rfl rfl ?_
  refine j_objInit B q_19 q_20 q_21 dX2_init_1 (Nat.le_of_ble_eq_true rfl) (Nat.le_of_ble_eq_true rfl) ?_
  refine j_aload_n B dX2_init_4 0 rfl rfl ?_
  refine j_bipush B (v := 60) dX2_init_5 (by decide) ?_
  refine j_anew B (N := 60) q_22 B.ao1 0 rfl (by decide) (by decide) (Nat.le_of_ble_eq_true rfl) (Nat.le_of_ble_eq_true rfl) (Nat.le_of_ble_eq_true rfl) dX2_init_7 (fun q1 hA1 => ?_)
  refine j_world (Wd' := fun H => va_at D vwCl (q, .inr (2, [.null, .null, .int 0, .int 0, .int 0, .int 0, .int 0])) H ∧ va_at D vwCl (q1, .inl (cD, 60, .inr (.inr (.inr (.inr (fun _ => none)))))) H ∧ q ≠ q1) (fun H h => ?_) ?_
  · obtain ⟨H0, h0, e0, -, ho, hx⟩ := h
    have l0 := h0.lt
    exact ⟨h0.kept (ho q (by rw [← e0]; exact l0)), hx, by rw [← e0]; exact Nat.ne_of_lt l0⟩
  refine j_fact (fun H h => h.2.2) (fun hq1 => ?_)
  refine j_putF B (Wd' := fun H => va_at D vwCl (q, .inr (2, [.ref q1, .null, .int 0, .int 0, .int 0, .int 0, .int 0])) H ∧ va_at D vwCl (q1, .inl (cD, 60, .inr (.inr (.inr (.inr (fun _ => none)))))) H ∧ q ≠ q1) pgX2 tyX2 tyX2_ok nmX2 rfl (fun H h => h.1) 0 (by decide) q_47 rfl rfl hnm rfl rfl rfl rfl (Nat.le_of_ble_eq_true rfl) dX2_init_10 hAq (fun H H1 h hc hz ho => ⟨hc, h.2.1.kept (ho _ hq1.symm), hq1⟩) ?_
  refine j_aload_n B dX2_init_13 0 rfl rfl ?_
  refine j_bipush B (v := 10) dX2_init_14 (by decide) ?_
  refine j_anew B (N := 10) q_24 B.ao0 1 rfl (by decide) (by decide) (Nat.le_of_ble_eq_true rfl) (Nat.le_of_ble_eq_true rfl) (Nat.le_of_ble_eq_true rfl) dX2_init_16 (fun q2 hA2 => ?_)
  refine j_world (Wd' := fun H => (va_at D vwCl (q, .inr (2, [.ref q1, .null, .int 0, .int 0, .int 0, .int 0, .int 0])) H ∧ va_at D vwCl (q1, .inl (cD, 60, .inr (.inr (.inr (.inr (fun _ => none)))))) H) ∧ va_at D vwCl (q2, .inl (cC, 10, .inr (.inr (.inr (.inr (fun _ => none)))))) H ∧ q ≠ q1 ∧ q ≠ q2 ∧ q1 ≠ q2) (fun H h => ?_) ?_
  · obtain ⟨H0, h0, e0, -, ho, hx⟩ := h
    have l0 : q < q2 := by rw [← e0]; exact h0.1.lt
    have l1 : q1 < q2 := by rw [← e0]; exact h0.2.1.lt
    exact ⟨⟨h0.1.kept (ho q l0), h0.2.1.kept (ho q1 l1)⟩, hx, hq1, Nat.ne_of_lt l0, Nat.ne_of_lt l1⟩
  refine j_fact (fun H h => h.2.2) (fun hq2 => ?_)
  refine j_putF B (Wd' := fun H => (va_at D vwCl (q, .inr (2, [.ref q1, .ref q2, .int 0, .int 0, .int 0, .int 0, .int 0])) H ∧ va_at D vwCl (q1, .inl (cD, 60, .inr (.inr (.inr (.inr (fun _ => none)))))) H) ∧ va_at D vwCl (q2, .inl (cC, 10, .inr (.inr (.inr (.inr (fun _ => none)))))) H ∧ q ≠ q1 ∧ q ≠ q2 ∧ q1 ≠ q2) pgX2 tyX2 tyX2_ok nmX2 rfl (fun H h => h.1.1) 1 (by decide) q_48 rfl rfl hnm rfl rfl rfl rfl (Nat.le_of_ble_eq_true rfl) dX2_init_19 hAq (fun H H1 h hc hz ho => ⟨⟨hc, h.1.2.kept (ho _ hq1.symm)⟩, h.2.1.kept (ho _ hq2.2.1.symm), hq2⟩) ?_
  refine j_iconst B (v := 0) dX2_init_22 (by decide) ?_
  refine j_istore_n B (L' := [(1, .int 0), (0, .ref q)]) dX2_init_23 rfl (by decide) rfl ?_
  refine j_world (Wd' := pgR0 D cD cC A (fun k => if k = 0 then q else if k = 1 then q1 else q2) 0) (fun H h => ?_) ?_
  · refine ⟨h.1.1, h.1.2, pg_refs h.2.1 (fun j hj => by simp), fun c hc => by omega, fun a b ha hb hab => ?_, fun k hk => ?_⟩
    · have z1 : q ≠ q1 := hq2.1
      have z2 : q ≠ q2 := hq2.2.1
      have z3 : q1 ≠ q2 := hq2.2.2
      rcases (show a = 0 ∨ a = 1 ∨ a = 2 by omega) with rfl | rfl | rfl <;> rcases (show b = 0 ∨ b = 1 ∨ b = 2 by omega) with rfl | rfl | rfl <;> simp at hab ⊢ <;> omega
    · rcases (show k = 0 ∨ k = 1 ∨ k = 2 by omega) with rfl | rfl | rfl
      · exact hAq
      · exact hA1
      · exact hA2
  refine j_loopC (N := 10) (X := Nat → Nat) (fun i => 2 + i) (fun i => 70 + 4 * i) (fun i x => x 0 = q) (fun i x => pgR0 D cD cC A x i) (fun i x => [(1, .int (nI i)), (0, .ref q)]) (fun i x hi hv ih => ?_) 0 _ (by omega) rfl
  subst hv
  refine j_iload_n B dX2_init_24 0 rfl rfl ?_
  refine j_bipush B (v := 10) dX2_init_25 (by decide) ?_
  refine j_icmp_ge B 50 dX2_init_27 (by decide) (fun h1 => ?_) (fun h1 => ?_)
  · obtain rfl := pg_eqN hi (by omega) h1
    exact j_vret B hr dX2_init_50 (show 2 + 10 ≤ 12 by omega) (show 70 + 4 * 10 ≤ 117 by omega) x rfl (fun H h => pgR0.done h)
  · have hlt := pg_ltN (N := 10) (by omega) hi h1
    refine j_fact (fun H h => h.2.2.2.2.2 2 (by omega)) (fun hA2x => ?_)
    refine j_aload_n B dX2_init_30 1 rfl rfl ?_
    refine j_get B (v := .ref (x 2)) pgX2 rfl (fun H h => h.1) 1 (by decide) q_48 rfl rfl dX2_init_31 ?_
    refine j_iload_n B dX2_init_34 0 rfl rfl ?_
    refine j_new B (ci := 0) (fs := [.int 0, .int 0, .int 0, .int 0]) pgX0 tyX0 tyX0_ok q_24 q_26 q_2 rfl (fun j hj => by rcases (show j = 0 ∨ j = 1 ∨ j = 2 ∨ j = 3 by omega) with rfl | rfl | rfl | rfl <;> rfl) (show 2 + i + 1 ≤ 12 by omega) (show 70 + 4 * i + 4 ≤ 117 by omega) dX2_init_35 (fun q3 hA3 => ?_)
    refine j_world (Wd' := fun H => pgR0 D cD cC A x i H ∧ va_at D vwCl (q3, .inr (0, [.int 0, .int 0, .int 0, .int 0])) H ∧ ∀ k, k < 3 + i → x k ≠ q3) (fun H h => pgFresh_R0 h) ?_
    refine j_fact (fun H h => h.2.2) (fun hne => ?_)
    refine j_dup B dX2_init_38 rfl ?_
    refine j_iload_n B dX2_init_39 0 rfl rfl ?_
    refine j_cIv B (S := Unit) (b := q3) 1 [.int (nI i)] (WdC' := fun _ H => va_at D vwCl (q3, .inr (0, [.int (nI i), .int 0, .int (-1), .int 0])) H) (fun _ => fun H => pgR0 D cD cC A x i H ∧ va_at D vwCl (q3, .inr (0, [.int (nI i), .int 0, .int (-1), .int 0])) H ∧ ∀ k, k < 3 + i → x k ≠ q3) (c_X0_init l D cD cC cI cZ cL (fun z => A z ∧ ∀ k, k < 3 + i → z ≠ x k) q3 ⟨hA3, fun k hk => (hne k hk).symm⟩ (nI i)) q_27 q_28 q_2 q_29 rfl hdX0_init rfl ⟨Nat.le_of_ble_eq_true rfl, Nat.le_of_ble_eq_true rfl⟩ (Nat.le_of_ble_eq_true rfl) dX2_init_40 rfl ⟨(show 2 + i + 1 + 0 ≤ 12 by omega), (show 70 + 4 * i + 4 + 0 ≤ 117 by omega)⟩ (fun z h => h.1) (fun H h z hz hA => ⟨hA, fun k hk9 e => by have := pgR0.lt h.1 k hk9; omega⟩) (fun H h => h.2.1) (fun H H1 u h hc hz hk => ⟨pgR0.kept h.1 (fun k hk9 => hk _ (pgR0.lt h.1 k hk9) (fun z => z.2 k hk9 rfl)), hc, h.2.2⟩) (fun _ _ => ?_)
    refine j_aast B (Wd' := pgR0 D cD cC A (va_up x (3 + i) q3) (i + 1)) (fun H h => h.1.2.2.1) 1 rfl (fun H h => h.2.1) rfl (vp_in_nI hlt (by omega)) dX2_init_43 (hA2x) (fun H H1 h hc hz ho => pgR0.push h.1 h.2.1 hne hA3 (by rw [show (nI i).toNatClampNeg = i from nI_clamp (by omega)] at hc; exact hc) ho) ?_
    refine j_iinc B (v := nI (i + 1)) (L' := [(1, .int (nI (i + 1))), (0, .ref (x 0))]) dX2_init_44 0 rfl (nI_1 i) (by decide) rfl ?_
    refine j_goto B 24 dX2_init_47 (by decide) ?_
    refine j_widen (k := 2 + (i + 1)) (n := 70 + 4 * (i + 1)) (show 2 + i + 1 + 0 ≤ 2 + (i + 1) by omega) (show 70 + 4 * i + 4 + 0 ≤ 70 + 4 * (i + 1) by omega) ?_
    exact ih hlt (va_up x (3 + i) q3) (va_up_ne _ _ (by omega))
end
section
/-- the words of a throw of X, whose own constructor's bytes are rx and call the one above by place ix -/
def pgNA (own : String) (ic : Nat) (X Y : String) (ix : Nat) (rx : ByteArray) (names : List String) : List Cond :=
  Bundle.throwableAtoms ++ Bundle.throwableSAtoms ++ (Bundle.passSAtoms X Y ix rx ++ Bundle.chainSAtoms Y names) ++
  [.methodLink own ic (Bundle.initS X), .instantiable X 6, .castable X X, .selects X Bundle.tFill0 Bundle.tFill0, .selects X Bundle.tFill Bundle.tFill,
   .lays X Bundle.tN "cause" "Ljava/lang/Throwable;", .lays X Bundle.tN "stackTrace" Bundle.steD, .lays X Bundle.tN "suppressedExceptions" Bundle.listD, .lays X Bundle.tN "detailMessage" "Ljava/lang/String;",
   .isRef (.static Bundle.tN "UNASSIGNED_STACK" Bundle.steD), .isRef (.static Bundle.tN "SUPPRESSED_SENTINEL" Bundle.listD),
   .fieldLink Bundle.tN 198 Bundle.tN "backtrace" "Ljava/lang/Object;", .lays Bundle.tN Bundle.tN "backtrace" "Ljava/lang/Object;", .lays X Bundle.tN "backtrace" "Ljava/lang/Object;"]
section PGX
variable {p : Program} {l : Launch} {e : Env} {R : Room} {s : State} {m₀ : MethodId} {args : Array Value} {below : List Frame} {meth : Method} {c : Code} {W : State} {locs : List Loc} {cells slots : Nat}
set_option maxHeartbeats 4000000 in
/-- the exception is made and thrown (it follows the library's own proof for a constructor by place 7, Stand.ctorThrowS, with the first link's place and bytes left open and of the new cell only what a handler asks) -/
theorem pg_ctorN (X : Stand p l e R s m₀ args below meth c W locs cells slots) (hexec : p.tables.exec = Jvm.exec) (htr : e.platform.stackTraces = false) {own cls Y0 : String} {names : List String} {ic ix : Nat} {rx : ByteArray} (x0 : decode rx 0 = .ok (.aload_n 0, 1)) (x1 : decode rx 1 = .ok (.aload_n 1, 1)) (x2 : decode rx 2 = .ok (.invokespecial ix, 3)) (x5 : decode rx 5 = .ok (.return_, 1))
    (hown : s.vm.findClass own = some m₀.cls) (hcls : Bundle.fit cls = true) (hY0 : Bundle.fit Y0 = true) (hnames : ∀ n ∈ names, Bundle.fit n = true) (h : ∀ a ∈ pgNA own ic cls Y0 ix rx names, a.before args s = true) (hlocs : ∀ x ∈ locs, ∀ cell, s.heap[x.base]? = some cell → cell.vm.isStatics = false)
    {a : Addr} {cX : ClassId} {kX : Class} (hfoundX : s.vm.findClass cls = some cX) (hkX : s.vm.classes[cX]? = some kX) (hcell : W.heap[a]? = some (freshCell cX kX)) (hnew : s.heap.size ≤ a) {msg : Value} (hmsg : msg.isRef = true)
    {g : JFrame} (hg : g.method = m₀) (hsize : g.locals.size = c.maxLocals) (hlocked : g.locked = none) (hentered : g.entered = []) {rest : List Value} (hstack : g.stack = msg :: .ref a :: .ref a :: rest)
    (hd6 : decode c.code g.pc = .ok (.invokespecial ic, 3)) (hd9 : decode c.code (g.pc + 3) = .ok (.athrow, 1)) (hout : ∀ x ∈ c.exceptionTable.toList, covers x (g.pc + 3) = false)
    (hRframes : names.length + 4 < R.frames) (hRlocals : 2 * g.monitorRoom + ((Value.ref a :: rest).map fun v => v.category).sum + (13 * (names.length + 2) + 42) ≤ R.locals) (hlocks : meth.locks = false) :
    ∃ U : State, Steps p.tables e below (W.setTop g) U ∧ U.status = .running ∧ Ended U below (.threw a) ∧ s.WarmedH U.vm ∧ s.sameButNew ({ U with vm := s.vm } : State) locs cells slots ∧ ∃ ce, U.heap[a]? = some ce ∧ ce.vm = .none ∧ s.vm.findClass cls = some ce.cls := by
  have howns : e.platform.frameOwnsMonitors = true := by rw [X.admits.platform]
  have hfin : e.platform.finalization = false := by rw [X.admits.platform]
  have hpl : e.platform.magicAccessors = ({} : Platform).magicAccessors := by rw [X.admits.platform]
  have a' : ∀ x, x ∈ pgNA own ic cls Y0 ix rx names → x.holds args s none s [] = true := fun x hx => h x hx
  obtain ⟨T, Z0, L, -, Y⟩ := ThrowableC.of_atoms (args := args) howns hfin hpl (fun x hx => h x (by simp [pgNA, hx]))
  obtain ⟨Z, M, LZ, LM, hnZ⟩ := Init0T.ofS_atoms (args := args) hpl L Y (fun x hx => h x (by simp [pgNA, hx]))
  obtain ⟨P0, Q0, hm0, hs0⟩ := PassC.ofS_atoms (args := args) (s := s) hpl (X := cls) (Y := Y0) (Bundle.fit_spec hcls).1 (Bundle.fit_spec hY0).2 x0 x1 x2 x5 (fun x hx => h x (by simp [pgNA, hx]))
  obtain ⟨P1, Ps, hlen, L1, hL, hP1m, hlink1, hlink⟩ := Bundle.chainS (args := args) hpl hnZ names Y0 hY0 hnames (fun x hx => h x (by simp [pgNA, hx]))
  have hsup0 : P0.sup = P1.m := Option.some.inj (hs0.symm.trans hP1m)
  have hfound : s.vm.findClass cls = some P0.m.cls := findClass_of_methodNamed hm0
  cases Option.some.inj (hfoundX.symm.trans hfound)
  obtain ⟨c1, kX', hc1, hk, hord, -, -, hn6⟩ := Cond.instantiable_spec (a' (.instantiable cls 6) (by simp [pgNA]))
  cases Option.some.inj (hc1.symm.trans hfound)
  cases Option.some.inj (hkX.symm.trans hk)
  have hsel0 : selectMethod e.platform s.vm P0.m.cls T.fill0 = .method T.fill0 := by
    obtain ⟨c2, r2, m2, q1, q2, q3, q4, -⟩ := Cond.selects_spec (a' (.selects cls Bundle.tFill0 Bundle.tFill0) (by simp [pgNA]))
    cases Option.some.inj (q1.symm.trans hfound)
    cases Option.some.inj (q2.symm.trans (State.methodFound?_of_named Y.fill0 (by decide)))
    cases Option.some.inj (q3.symm.trans Y.fill0)
    rw [Launch.admits_selectMethod X.admits]; exact q4
  have hselF : selectMethod e.platform s.vm P0.m.cls T.fill = .method T.fill := by
    obtain ⟨c2, r2, m2, q1, q2, q3, q4, -⟩ := Cond.selects_spec (a' (.selects cls Bundle.tFill Bundle.tFill) (by simp [pgNA]))
    cases Option.some.inj (q1.symm.trans hfound)
    cases Option.some.inj (q2.symm.trans (State.methodFound?_of_named Y.fill (by decide)))
    cases Option.some.inj (q3.symm.trans Y.fill)
    rw [Launch.admits_selectMethod X.admits]; exact q4
  obtain ⟨cellS0, hcS0, hiss⟩ := Y.statics
  obtain ⟨u0, hu0⟩ := Cond.staticRefV Y.unassigned L.unassignedStatic L.statics hcS0 hiss (a' (.isRef (.static Bundle.tN "UNASSIGNED_STACK" Bundle.steD)) (by simp [pgNA]))
  obtain ⟨sen, hsen⟩ := Cond.staticRefV Y.sentinel L.sentinelStatic L.statics hcS0 hiss (a' (.isRef (.static Bundle.tN "SUPPRESSED_SENTINEL" Bundle.listD)) (by simp [pgNA]))
  obtain ⟨ci198, i198, fB, hk198, hg198, ha198, hsB, -, hnB, htB, hffB⟩ := Cond.ownField (t := .object "java/lang/Object") Y.found L.cls (by decide +kernel) (a' (.fieldLink Bundle.tN 198 Bundle.tN "backtrace" "Ljava/lang/Object;") (by simp [pgNA])) (a' (.lays Bundle.tN Bundle.tN "backtrace" "Ljava/lang/Object;") (by simp [pgNA])) e.platform hpl
  obtain ⟨cellS, hcS', heS, -, hkeep⟩ := X.same.2.2.2.2.2 T.aS cellS0 hcS0
  have hcellS : W.heap[T.aS]? = some cellS := hcS'
  have hout' : ∀ i, (⟨T.aS, i⟩ : Loc) ∉ locs := fun i hmem => by
    have := hlocs _ hmem cellS0 hcS0
    rw [hiss] at this; cases this
  have hknownS : cellS.vm ≠ .unknown := by
    rw [heS]; intro hu
    rw [show cellS0.vm = .unknown from hu] at hiss
    cases hiss
  have hneS : T.aS ≠ a := Nat.ne_of_lt (Nat.lt_of_lt_of_le (Array.getElem?_eq_some_iff.mp hcS0).1 hnew)
  obtain ⟨iM, hffM⟩ := Y.msg
  obtain ⟨tyC, dC, hdC, hdnC⟩ := Cond.laysAt hfound hk Y.cause (a' (.lays cls Bundle.tN "cause" "Ljava/lang/Throwable;") (by simp [pgNA]))
  obtain ⟨tyS, dS, hdS, hdnS⟩ := Cond.laysAt hfound hk Y.stack (a' (.lays cls Bundle.tN "stackTrace" Bundle.steD) (by simp [pgNA]))
  obtain ⟨tyP, dP, hdP, hdnP⟩ := Cond.laysAt hfound hk Y.supp (a' (.lays cls Bundle.tN "suppressedExceptions" Bundle.listD) (by simp [pgNA]))
  obtain ⟨tyM, dM, hdM, hdnM⟩ := Cond.laysAt hfound hk hffM (a' (.lays cls Bundle.tN "detailMessage" "Ljava/lang/String;") (by simp [pgNA]))
  obtain ⟨tyB, dB, hdB, hdnB⟩ := Cond.laysAt hfound hk hffB (a' (.lays cls Bundle.tN "backtrace" "Ljava/lang/Object;") (by simp [pgNA]))
  have bC := Cond.laysApart hdB hdC hdnB hdnC (by rw [hnB, Y.causeName]; decide)
  have bS := Cond.laysApart hdB hdS hdnB hdnS (by rw [hnB, Y.stackName]; decide)
  have bP := Cond.laysApart hdB hdP hdnB hdnP (by rw [hnB, Y.suppName]; decide)
  have hskip : SkipFacts T e.platform s (fun u => u) u0 ((preparedCellV T.toThrowableT (freshCell P0.m.cls kX) a u0 sen).withEntry W.cur) :=
    ⟨{ ci198 := ci198, i198 := i198, fBack := fB }, ⟨hk198, hg198, ha198, hsB⟩, by
      have := fresh_default (c := P0.m.cls) tyB
      rw [htB] at this
      simpa [preparedCellV, Cell.setSlot, Cell.withEntry, Array.getElem?_setIfInBounds, bC, bS, bP, bC.symm, bS.symm, bP.symm, defaultValue] using this, fun _ _ => rfl⟩
  obtain ⟨tm, methC, cdC, kC, vm₁, hnC, -, -, -, -, -, -, -, hW₁, st1⟩ := Steps.initColdS (tb := p.tables) (e := e) (below := below) (s := s) (U := W) X.here hexec X.warmed hpl hown (t := Bundle.initS cls) rfl rfl (Bundle.fit_spec hcls).2
    (a' (.methodLink own ic (Bundle.initS cls)) (by simp [pgNA])) (h (.instanceMethod (Bundle.initS cls)) (by simp [pgNA, Bundle.passSAtoms])) (bytes := rx) (maxL := 2) (h (.code (Bundle.initS cls) rx 2 none) (by simp [pgNA, Bundle.passSAtoms]))
    (f := g) hg (a := a) (msg := msg) (rest := .ref a :: rest) hstack hd6
  cases Option.some.inj (hnC.symm.trans hm0)
  have X₁ := X.noted hW₁
  obtain ⟨vm₂, X₂, st2⟩ := X₁.ctorMessageOffV hexec (g := { g with stack := .ref a :: rest }) hg hsize T L Z LZ M LM (P0 :: P1 :: Ps)
    (fun P hP => by
      rcases List.mem_cons.mp hP with rfl | hP
      · exact Q0
      · rcases List.mem_cons.mp hP with rfl | hP
        · exact L1
        · exact hL P hP) ⟨hsup0, hlink1, hlink⟩ (u0 := u0) (sen := sen) (self := a) hmsg (cell := freshCell P0.m.cls kX) (cellS := cellS)
    hcell (fun _ => by simp) (by simp) rfl rfl hsel0 hselF hcellS hneS hknownS (by rw [hkeep _ (hout' _)]; exact hu0) (by rw [hkeep _ (hout' _)]; exact hsen)
    (Takes.of_laid hk hord tyC (by rw [Y.causeType]; rfl)) (Takes.of_laid hk hord tyS (by rw [Y.stackType]; exact fits_refV_array _ u0)) (Takes.of_laid hk hord tyP (by rw [Y.suppType]; exact fits_refV_object _ sen))
    (Takes.of_laid hk hord tyM (by rw [Y.msgType]; exact fits_refV_object _ ⟨msg, hmsg⟩)) Y.objLocals hskip htr [] hd6
    (by simp only [List.length_cons, hlen]; omega) (by simp only [List.length_cons, hlen]; exact hRlocals)
  obtain ⟨hwalk, hrun, hended, hWU, hsame⟩ := X₂.athrowLeaves hexec (g := { g with stack := .ref a :: rest, pc := g.pc + 3 }) hg hlocked hentered hout (a := a) (rest := rest) rfl hd9
  have hlt : a < ((W.setVm vm₁).setVm vm₂).heap.size := (Array.getElem?_eq_some_iff.mp hcell).1
  have hU := heapAt_setCell_self (s := (W.setVm vm₁).setVm vm₂) (plainBareV T.toThrowableT (freshCell P0.m.cls kX) a u0 sen msg) hlt
  refine ⟨_, st1 _ (fun acts => ?_), hrun, hended, hWU, hsame.weaken (fun y hy hlt' => ?_) (Nat.le_refl _) (Nat.le_refl _), _, hU, rfl, hfound⟩
  · rw [doInvoke_state]
    exact st2 _ hwalk
  · rcases List.mem_append.mp hy with h1 | h1
    · exact h1
    · exfalso
      have hb : y.base = a := by
        simp only [List.mem_cons, List.not_mem_nil, or_false] at h1
        rcases h1 with rfl | rfl | rfl | rfl | rfl <;> rfl
      rw [hb] at hlt'
      exact Nat.not_lt.mpr hnew hlt'
end PGX
abbrev pgRxN : ByteArray := prog_13_method_4_code
abbrev pgLN : List Cond := pgNA RX2 174 pgEN "java/lang/RuntimeException" 13 pgRxN ["java/lang/Exception"]
theorem pgRxN_0 : decode pgRxN 0 = .ok (.aload_n 0, 1) := by decide +kernel
theorem pgRxN_1 : decode pgRxN 1 = .ok (.aload_n 1, 1) := by decide +kernel
theorem pgRxN_2 : decode pgRxN 2 = .ok (.invokespecial 13, 3) := by decide +kernel
theorem pgRxN_5 : decode pgRxN 5 = .ok (.return_, 1) := by decide +kernel
theorem pgTN : ∀ w ∈ (pgLN.filter vx_no).filter goodWord, w ∈ pgWd := pg_ins [3, 108, 117, 122, 125, 127, 109, 110, 20, 21, 111, 116, 123, 143, 98, 144, 100, 145, 102, 112, 114, 104, 139, 140, 142, 104, 424, 425, 426, 133, 133, 134, 135, 136, 136, 137, 138, 139, 423, 414, 416, 121, 417, 418, 419, 420, 107, 106, 421] (by decide +kernel)
theorem pgTN2 : ∀ w ∈ (pgLN.filter vx_no).filter (fun w => !goodWord w), w ∈ pgNw := by decide +kernel
theorem pgTN3 : ∀ w ∈ Cond.classLink RX2 170 pgEN :: Cond.initialized pgEN :: pgLN.filter vx_no, vx_ot w = true := by decide +kernel
theorem j_throwN {p : Program} {l : Launch} {e : Env} {R : Room} {s : State} {m : MethodId} {args : Array Value} {below : List Frame} {meth : Method} {c : Code} {cc : ByteArray} {nL : Nat} {D : va_G} {tys : List (ClassId × FieldType)} {A : Nat → Prop} {Wd Wd0 : Heap → Prop} {cells slots : Nat} {pc : Nat} {L : List (Nat × Value)} {Qc : Array Value → State → Outcome → State → Prop} {px : Nat → Prop} {mc ms : Nat} (q1 : Cond.classLink RX2 170 pgEN ∈ pgWd) (q2 : Cond.initialized pgEN ∈ pgWd)
    (B : pgB p m c s args meth RX2 cc nL D tys A) (hl : l.stackTraces = false) (ht : ∀ x ∈ c.exceptionTable.toList, False) {is : Nat} {text : String} (hm : (is, text) ∈ pgStr) (d0 : decode cc pc = .ok (.new 170, 3)) (d3 : decode cc (pc + 3) = .ok (.dup, 1)) (d4 : decode cc (pc + 4) = .ok (.ldc is, 2)) (d6 : decode cc (pc + 6) = .ok (.invokespecial 174, 3)) (d9 : decode cc (pc + 9) = .ok (.athrow, 1)) (hRf : 5 < R.frames) (hRl : 82 ≤ R.locals) (hRc : cells + 1 ≤ R.cells) (hRs : slots + 6 ≤ R.slots) (hc : cells + 1 ≤ mc) (hs : slots + 6 ≤ ms) (hpx : px 4) (kept : ∀ (H H1 : Heap), Wd H → (∀ q : Nat, q < H.size → H1[q]? = H[q]?) → Wd0 H1) :
    pgJ p l e R s m args below meth c nL A Wd cells slots (vx_MQ below Qc (pgX A px Wd0) args s mc ms A) pc L [] := by
  intro H locs ls hS hW hll T hT X
  obtain ⟨hx, hb, hml, hown, hts, hlocks, hE⟩ := id B
  obtain ⟨sa, hstr⟩ := pg_str hE hm
  have hat : ∀ w ∈ pgLN.filter vx_no, w.before args s = true := vx_hat (fun w h => hts w (pgTN w h)) pgTN2 (pg_nw hE args)
  have htr : e.platform.stackTraces = false := (show e.platform.stackTraces = l.stackTraces by rw [X.admits.platform]).trans hl
  have Y := vx_rebase X (R' := { frames := R.frames, locals := R.locals, cells := 1, slots := 6 }) (Nat.le_refl _) (Nat.le_refl _) hRc hRs
  obtain ⟨s', hA⟩ : ∃ z, z = (T.setVm s.vm).setFrames (.invoking m args :: below) := ⟨_, rfl⟩
  rw [← hA] at Y
  have hvm : s'.vm = s.vm := by rw [hA]; rfl
  have hhp : s'.heap = H := by rw [hA]; exact hT
  have hW0 : s.WarmedH s'.vm := by rw [hvm]; exact State.WarmedH.refl s
  have hat' : ∀ w ∈ pgLN.filter vx_no, w.before args s' = true := fun w hw => vx_ot_at hW0 hvm.symm (pgTN3 w (List.mem_cons_of_mem _ (List.mem_cons_of_mem _ hw))) (hat w hw)
  have hk' : (Cond.classLink RX2 170 pgEN).before args s' = true := vx_ot_at hW0 hvm.symm (pgTN3 _ List.mem_cons_self) (hts _ q1)
  have hini' : (Cond.initialized pgEN).before args s' = true := vx_ot_at hW0 hvm.symm (pgTN3 _ (List.mem_cons_of_mem _ List.mem_cons_self)) (hts _ q2)
  have hU' : vx_Zq Bundle.tN "UNASSIGNED_STACK" Bundle.steD A s' s'.heap := by rw [hhp]; exact vx_Zq.moved hW0.alike (hE.2.1.1.kept hS.2.1)
  have hN' : vx_Zq Bundle.tN "SUPPRESSED_SENTINEL" Bundle.listD A s' s'.heap := by rw [hhp]; exact vx_Zq.moved hW0.alike (hE.2.1.2.kept hS.2.1)
  have h : ∀ w ∈ pgLN, w.before args s' = true := vx_own hat' (vx_isRefq hU'.1) (vx_isRefq hN'.1) hU'.2.word hN'.2.word
  have hown' : s'.vm.findClass RX2 = some m.cls := by rw [hvm]; exact hown
  have hins : (Cond.instantiable pgEN 6).before args s' = true := h _ (by simp [pgNA])
  obtain ⟨vm₁, cX, kX, hfX, hkX, -, -, X₁, st1⟩ := Y.newCold hx (own := RX2) (C := pgEN) (index := 170) (n := 6) hown' hk' hins hini' (g := F0 m pc ls []) rfl (by rw [hb]; exact d0) (Nat.le_refl _) (Nat.le_refl _)
  generalize hT1 : (T.setVm vm₁).pushCell { cls := cX, slots := kX.instanceTypes.map defaultValue, vm := .none } = T1 at X₁ st1
  have hcat : (Value.ref T.heap.size).category = 1 := rfl
  have hcellA : T1.heap[T.heap.size]? = some (freshCell cX kX) := by rw [← hT1]; exact State.heap_pushCell_size _ _
  have d3' : decode c.code (pc + 3) = .ok (.dup, 1) := by rw [hb]; exact d3
  have d4' : decode c.code (pc + 4) = .ok (.ldc is, 2) := by rw [hb]; exact d4
  have hstr' : vk_R RX2 is text sa s' := vk_R.warm hW0 hstr
  obtain ⟨U, hsteps, hrun, hend, hWU, hsame, ce, hce, hcv, hcl⟩ := pg_ctorN X₁ hx htr (own := RX2) (cls := pgEN) (Y0 := "java/lang/RuntimeException") (names := ["java/lang/Exception"]) (ic := 174) pgRxN_0 pgRxN_1 pgRxN_2 pgRxN_5 hown' rfl rfl (by decide) h (fun x hx => nomatch hx) hfX hkX hcellA (by rw [hhp, hT]; exact Nat.le_refl _) (msg := .ref sa) rfl
    (g := { method := m, pc := pc + 6, locals := ls, stack := .ref sa :: .ref T.heap.size :: .ref T.heap.size :: [], locked := none }) rfl (by rw [hml]; exact hll.1) rfl rfl (rest := []) rfl
    (by rw [hb]; exact d6) (by rw [hb]; exact d9) (fun x hx => (ht x hx).elim) hRf (by simp only [List.map_cons, List.sum_cons, List.map_nil, List.sum_nil, hcat]; exact Nat.le_trans (Nat.le_of_ble_eq_true rfl) hRl) hlocks
  obtain ⟨f1, f2⟩ := vx_frame hsame
  rw [hhp] at f1 f2
  have hWs : s.WarmedH U.vm := State.WarmedH.trans hW0 hWU
  have hcl2 : s.vm.findClass pgEN = some ce.cls := by
    rw [hvm] at hcl
    exact hcl
  have hall : s.sameButNew ({ U with vm := s.vm } : State) locs mc ms := by
    subst hA
    obtain ⟨e1, e2⟩ := hsame
    rw [State.setFrames_setFrames] at e1
    have h2 : (T.setVm s.vm).sameButNew ({ U with vm := s.vm } : State) [] (0 + 1) (0 + 6) := ⟨e1, e2⟩
    have h3 := X.same.trans h2
    rw [List.append_nil] at h3
    exact h3.mono hc hs
  refine ⟨U, ?_, .threw T.heap.size, hrun, hend, Or.inr ⟨T.heap.size, rfl, pgEN, ce, locs, ⟨4, hpx, ⟨rfl, kept H U.heap hW (fun q hq => f2 q hq (fun z hz => nomatch hz))⟩, Nat.le_trans hS.1 f1, fun q h1 h2 => (f2 q (Nat.lt_of_lt_of_le h1 hS.1) (fun z hz => nomatch hz)).trans (hS.2.1 q h1 h2)⟩, hce, hcv, hcl2, hWs, hall, hS.2.2⟩⟩
  refine st1 _ ?_
  show Steps p.tables e below (T1.setTop { method := m, pc := pc + 3, locals := ls, stack := .ref T.heap.size :: [], locked := none }) _
  jvm_step X₁.here [X₁.here.top, hx, d3', Value.category]
  exact X₁.ldcString hx (own := RX2) (text := text) (index := is) (a := sa) hown' hstr'.1 hstr'.2
    (g := { method := m, pc := pc + 4, locals := ls, stack := .ref T.heap.size :: .ref T.heap.size :: [], locked := none }) rfl d4' _ hsteps
end
section
section PGCE
variable {σ : pgSt} {k v : Int32} {n i : Nat}
theorem pgCe_0 : σ = pgCe σ k v 0 := by
  funext t j
  simp [pgCe]
theorem pgCe_at {t j : Nat} (ht : t ≠ 9) : pgCe σ k v i t j = σ t j := by simp [pgCe, ht]
theorem pgCe_9 : pgCe σ k v i 9 i = σ 9 i := by simp [pgCe]
theorem pgCeM_aw (hi : i < n) : pgAw (pgCe σ k v (min i n)) i ↔ pgAw σ i := by
  rw [Nat.min_eq_left (by omega)]
  simp only [pgAw, pgFin, pgCe_at (show (4 : Nat) ≠ 9 by decide), pgCe_at (show (8 : Nat) ≠ 9 by decide), pgCe_at (show (5 : Nat) ≠ 9 by decide), pgCe_9]
theorem pgCeM_n (h : ¬ i < n) : pgCe σ k v (min i n) = pgCe σ k v (min (i + 1) n) := by
  rw [Nat.min_eq_right (by omega), Nat.min_eq_right (by omega)]
theorem pgCeM_f (hi : i < n) (h : ¬ (σ 2 i = k ∧ pgAw σ i)) : pgCe σ k v (min i n) = pgCe σ k v (min (i + 1) n) := by
  rw [Nat.min_eq_left (by omega), Nat.min_eq_left (by omega)]
  funext t j
  simp only [pgCe]
  by_cases hj : j = i
  · subst hj
    simp [h]
  · have q : (j < i + 1) = (j < i) := by apply propext; omega
    simp only [q]
theorem pgCeM_t (hi : i < n) (h : σ 2 i = k ∧ pgAw σ i) : pgU (pgCe σ k v (min i n)) 9 i v = pgCe σ k v (min (i + 1) n) := by
  rw [Nat.min_eq_left (by omega), Nat.min_eq_left (by omega)]
  funext t j
  simp only [pgCe, pgU]
  by_cases ht : t = 9
  · subst ht
    by_cases hj : j = i
    · subst hj
      simp [h]
    · have q : (j < i + 1) = (j < i) := by apply propext; omega
      simp [q, hj]
  · simp [ht]
theorem pgN_0 {P : Nat → Bool} : ∀ {m : Nat}, pgN P m = 0 → ∀ j, j < m → ¬ P j = true
  | 0, _, j, hj => by omega
  | m + 1, h, j, hj => by
    have h2 : pgN P m + (if P m = true then 1 else 0) = 0 := h
    by_cases e : j = m
    · subst e
      intro q
      rw [if_pos q] at h2
      omega
    · exact pgN_0 (m := m) (by omega) j (by omega)
theorem pgCe_none (h : pgCeN σ k n = 0) : pgCe σ k v n = σ := by
  funext t j
  simp only [pgCe]
  by_cases q : t = 9 ∧ j < n ∧ σ 2 j = k ∧ pgAw σ j
  · have := pgN_0 h j q.2.1
    simp only [decide_eq_true_eq] at this
    exact absurd q.2.2 this
  · rw [if_neg q]
theorem nI_z {m : Nat} (hm : m ≤ 60) (h : nI m = 0) : m = 0 := (nI_eq (a := m) (b := 0) (by omega) (by omega)).mp h
end PGCE
set_option maxHeartbeats 4000000 in
set_option maxRecDepth 100000 in
/-- certify -/
theorem c_X2_certify (l : Launch) (hl : l.stackTraces = false) (D : va_G) (cD cC cI cZ cL : ClassId) (A : Nat → Prop) (σ : pgSt) (n : Nat) (ad : Nat → Nat) (hI : pgI n σ) (k0 : Int32) : vx_Met l yX2_certify (.code yX2_certify cX2_certify 7 (some .int) :: pgWd) ({ frames := 7, cells := 2, slots := 12, locals := 102 } : Room) (pgPc D (pgTys cD cC cI cZ cL) A (pgR D cD cC A σ n ad) [.ref (ad 0), .int k0]) (va_Qi (fun (r : Int32) (_ : Unit) => (sp_certify σ k0).1 = 0 ∧ r = (sp_certify σ k0).2.1) (fun _ t9 => pgR D cD cC A ((sp_certify σ k0).2.2) n ad t9.heap) A) (pgX A (fun k => (sp_certify σ k0).1 = k ∧ k ≠ 0) (pgR D cD cC A σ n ad)) 2 12 A := by
  refine pg_enterX (own := RX2) (by decide) rfl (Nat.le_of_ble_eq_true rfl) (fun p e s m below meth cc9 B hr hnm ht => ?_)
  refine j_fact (fun H h => pgR.inA h) (fun hIn => ?_)
  refine j_iload_n B dX2_certify_0 1 rfl rfl ?_
  refine j_xSv B 1 [.int k0] ht (S := Unit) (WdC' := fun _ => pgR D cD cC A σ n ad)  (c_X2_requireKeeper l hl D cD cC cI cZ cL A σ n ad k0) q_83 q_84 q_1 q_85 hdX2_requireKeeper rfl ⟨Nat.le_of_ble_eq_true rfl, Nat.le_of_ble_eq_true rfl⟩ (Nat.le_of_ble_eq_true rfl) dX2_certify_1 rfl ⟨Nat.le_of_ble_eq_true rfl, Nat.le_of_ble_eq_true rfl⟩ (Nat.le_of_ble_eq_true rfl) (Nat.le_of_ble_eq_true rfl) (fun k h => by obtain ⟨rfl, h9⟩ := h; simp only [sp_certify]; grind) (fun H h => h) (fun u1 hp2 => ?_)
  refine j_iconst B (v := 0) dX2_certify_4 (by decide) ?_
  refine j_istore_n B (L' := [(2, .int 0), (0, .ref (ad 0)), (1, .int k0)]) dX2_certify_5 rfl (by decide) rfl ?_
  refine j_aload_n B dX2_certify_6 1 rfl rfl ?_
  refine j_get B (v := .ref (ad 1)) pgX2 rfl (fun H h => pgR.x h) 0 (by decide) q_47 rfl rfl dX2_certify_7 ?_
  refine j_astore_n B (L' := [(3, .ref (ad 1)), (2, .int 0), (0, .ref (ad 0)), (1, .int k0)]) dX2_certify_10 rfl (by decide) rfl ?_
  refine j_aload_n B dX2_certify_11 0 rfl rfl ?_
  refine j_alen B (fun H h => pgR.bd h) 0 rfl (v := 60) rfl dX2_certify_12 ?_
  refine j_istore B (L' := [(4, .int 60), (3, .ref (ad 1)), (2, .int 0), (0, .ref (ad 0)), (1, .int k0)]) dX2_certify_13 (by decide) rfl ?_
  refine j_iconst B (v := 0) dX2_certify_15 (by decide) ?_
  refine j_istore B (L' := [(5, .int 0), (4, .int 60), (3, .ref (ad 1)), (2, .int 0), (0, .ref (ad 0)), (1, .int k0)]) dX2_certify_16 (by decide) rfl ?_
  refine j_locals [0, 1, 2, 3, 5, 4] rfl ?_
  refine j_world (Wd' := pgR D cD cC A (pgCe σ k0 (σ 13 4) (min 0 n)) n ad) (fun H h => pgR.eq h (by rw [Nat.zero_min]; exact pgCe_0)) ?_
  refine j_loop (N := 60) (X := Int32) (fun i x => x = nI (pgN (fun j => decide (j < n ∧ (σ 2 j = k0 ∧ pgAw σ j))) i)) (fun i x => pgR D cD cC A (pgCe σ k0 (σ 13 4) (min i n)) n ad) (fun i x => [(5, .int (nI i)), (4, .int 60), (3, .ref (ad 1)), (2, .int x), (1, .int k0), (0, .ref (ad 0))]) (fun i x hi hv ih => ?_) 0 0 (by omega) rfl
  refine j_iload B dX2_certify_18 0 rfl ?_
  refine j_iload B dX2_certify_20 1 rfl ?_
  refine j_icmp_ge B 71 dX2_certify_22 (by decide) (fun h3 => ?_) (fun h3 => ?_)
  · obtain rfl := pg_eqN hi (by omega) h3
    refine j_world (Wd' := pgR D cD cC A (pgCe σ k0 (σ 13 4) n) n ad) (fun H h => pgR.eq h (congrArg _ (Nat.min_eq_right hI.1))) ?_
    have hv0 : x = nI (pgCeN σ k0 n) := hv.trans (congrArg nI (pgN_60 (Q := fun j => σ 2 j = k0 ∧ pgAw σ j) _ hI.1))
    have hc0 : pgCeN σ k0 n ≤ 60 := Nat.le_trans (pgN_le _ _) hI.1
    refine j_iload_n B dX2_certify_71 3 rfl rfl ?_
    refine j_if_ne B 85 dX2_certify_72 (by decide) (fun h4 => ?_) (fun h4 => ?_)
    · refine j_aload_n B dX2_certify_85 5 rfl rfl ?_
      refine j_dup B dX2_certify_86 rfl ?_
      refine j_get B (v := .int ((pgCe σ k0 (σ 13 4) n) 13 4)) pgX2 rfl (fun H h => pgR.x h) 6 (by decide) q_53 rfl rfl dX2_certify_87 ?_
      refine j_iconst B (v := 1) dX2_certify_90 (by decide) ?_
      refine j_iadd B dX2_certify_91 ?_
      refine j_put B (Wd' := pgR D cD cC A (pgU (pgCe σ k0 (σ 13 4) n) 13 4 (((pgCe σ k0 (σ 13 4) n) 13 4) + 1)) n ad) pgX2 tyX2 tyX2_ok nmX2 rfl (fun H h => pgR.x h) 6 (by decide) q_53 rfl rfl rfl rfl rfl (Nat.le_of_ble_eq_true rfl) dX2_certify_92 (hIn 0 (by omega)) (fun H H1 h hc hz ho => pgR.putX h pgXs6 hc ho) ?_
      refine j_iload_n B dX2_certify_95 3 rfl rfl ?_
      have hn7 := pgI_n hI
      have hnz : ¬ pgCeN σ k0 n = 0 := fun z => by rw [z] at hv0; exact absurd hv0 (by assumption)
      have e9 : sp_certify σ k0 = (0, x, pgU (pgCe σ k0 (σ 13 4) n) 13 4 (σ 13 4 + 1)) := by
        rw [hv0]
        simp only [sp_certify, hn7]
        grind
      exact j_x (j_iret B hr rfl dX2_certify_96 (Nat.le_of_ble_eq_true rfl) (Nat.le_of_ble_eq_true rfl) () ⟨by rw [e9], by rw [e9]⟩ (fun H h => pgR.eq h (by rw [e9]; rfl)))
    · have hz0 : pgCeN σ k0 n = 0 := nI_z hc0 (by rw [← hv0]; assumption)
      exact j_throwN q_413 q_10 B hl ht (is := 172) (text := "no disk would be on the certificate") (by decide) dX2_certify_75 dX2_certify_78 dX2_certify_79 dX2_certify_81 dX2_certify_84 (Nat.le_of_ble_eq_true rfl) (Nat.le_of_ble_eq_true rfl) (Nat.le_of_ble_eq_true rfl) (Nat.le_of_ble_eq_true rfl) (Nat.le_of_ble_eq_true rfl) (Nat.le_of_ble_eq_true rfl) (by have hn7 := pgI_n hI; simp only [sp_certify, hn7]; grind) (fun H H1 h hq => pgR.more (pgR.eq h (pgCe_none hz0)) hq)
  · have hlt := pg_ltN (N := 60) (by omega) hi h3
    refine j_aload_n B dX2_certify_25 2 rfl rfl ?_
    refine j_iload B dX2_certify_26 0 rfl ?_
    refine j_aald B (fun H h => pgR.bd h) 0 rfl (vp_in_nI hlt (by omega)) dX2_certify_28 (fun h5 => ?_) (fun y6 h5 => ?_)
    · have nh5 := pgBd_nI hlt h5
      refine j_astoreN B (L' := [(6, .null), (5, .int (nI i)), (4, .int 60), (3, .ref (ad 1)), (2, .int x), (1, .int k0), (0, .ref (ad 0))]) dX2_certify_29 (by decide) rfl ?_
      refine j_aloadN B dX2_certify_31 0 rfl ?_
      refine j_ifnullN B 65 dX2_certify_33 (by decide) ?_
      refine j_iinc B (v := nI (i + 1)) (L' := [(5, .int (nI (i + 1))), (6, .null), (4, .int 60), (3, .ref (ad 1)), (2, .int x), (1, .int k0), (0, .ref (ad 0))]) dX2_certify_65 1 rfl (nI_1 i) (by decide) rfl ?_
      refine j_goto B 18 dX2_certify_68 (by decide) ?_
      refine j_locals [0, 2, 3, 4, 5, 6] rfl ?_
      exact j_world (fun H h => pgR.eq h (pgCeM_n (by assumption))) (ih hlt _ (pgN_f2 hv (fun q => absurd (of_decide_eq_true q).1 (by assumption))))
    · obtain ⟨jh5, rfl⟩ := pgBd_sI hlt h5
      refine j_astore B (L' := [(6, .ref (ad (13 + i))), (5, .int (nI i)), (4, .int 60), (3, .ref (ad 1)), (2, .int x), (1, .int k0), (0, .ref (ad 0))]) dX2_certify_29 (by decide) rfl ?_
      refine j_aload B dX2_certify_31 0 rfl ?_
      refine j_ifnull B dX2_certify_33 ?_
      refine j_aload B dX2_certify_36 0 rfl ?_
      refine j_get B (v := .int ((pgCe σ k0 (σ 13 4) (min i n)) 2 i)) pgX1 rfl (fun H h => pgR.dk h jh5) 2 (by decide) q_198 rfl rfl dX2_certify_38 ?_
      refine j_iload_n B dX2_certify_41 5 rfl rfl ?_
      refine j_icmp_ne B 65 dX2_certify_42 (by decide) (fun h7 => ?_) (fun h7 => ?_)
      · rw [pgCe_at (by decide)] at h7
        refine j_iinc B (v := nI (i + 1)) (L' := [(5, .int (nI (i + 1))), (6, .ref (ad (13 + i))), (4, .int 60), (3, .ref (ad 1)), (2, .int x), (1, .int k0), (0, .ref (ad 0))]) dX2_certify_65 1 rfl (nI_1 i) (by decide) rfl ?_
        refine j_goto B 18 dX2_certify_68 (by decide) ?_
        refine j_locals [0, 2, 3, 4, 5, 6] rfl ?_
        have z : ¬ (σ 2 i = k0 ∧ pgAw σ i) := fun q => absurd q.1 (by assumption)
        exact j_world (fun H h => pgR.eq h (pgCeM_f (by assumption) z)) (ih hlt _ (pgN_f2 hv (fun q => z (of_decide_eq_true q).2)))
      · rw [pgCe_at (by decide)] at h7
        refine j_aload B dX2_certify_45 0 rfl ?_
        refine j_cVi B (S := Unit) 0 [] (WdC' := fun _ => pgR D cD cC A (pgCe σ k0 (σ 13 4) (min i n)) n ad) (fun _ => pgR D cD cC A (pgCe σ k0 (σ 13 4) (min i n)) n ad) (c_X1_awaitsCertificate l D cD cC cI cZ cL A (pgCe σ k0 (σ 13 4) (min i n)) n ad i jh5) rfl (fun H h => pgR.dk h jh5) q_408 q_409 q_410 q_9 q_411 hdX1_awaitsCertificate rfl ⟨Nat.le_of_ble_eq_true rfl, Nat.le_of_ble_eq_true rfl⟩ (Nat.le_of_ble_eq_true rfl) dX2_certify_47 rfl ⟨Nat.le_of_ble_eq_true rfl, Nat.le_of_ble_eq_true rfl⟩ (fun _ h => h) (fun _ _ _ _ h => h) (fun _ h => h) (fun _ _ _ _ h _ _ => h) (fun r8 _ hp9 => ?_)
        by_cases h10 : pgAw (pgCe σ k0 (σ 13 4) (min i n)) i
        · obtain rfl : r8 = 1 := by rw [hp9]; exact if_pos h10
          refine j_if_eq B 65 dX2_certify_50 (by decide) (fun h11 => (absurd h11 (by decide))) (fun h11 => ?_)
          refine j_aload B dX2_certify_53 0 rfl ?_
          refine j_aload_n B dX2_certify_55 6 rfl rfl ?_
          refine j_get B (v := .int ((pgCe σ k0 (σ 13 4) (min i n)) 13 4)) pgX2 rfl (fun H h => pgR.x h) 6 (by decide) q_53 rfl rfl dX2_certify_56 ?_
          refine j_put B (Wd' := pgR D cD cC A (pgU (pgCe σ k0 (σ 13 4) (min i n)) 9 i ((pgCe σ k0 (σ 13 4) (min i n)) 13 4)) n ad) pgX1 tyX1 tyX1_ok nmX1 rfl (fun H h => pgR.dk h jh5) 10 (by decide) q_213 rfl rfl rfl rfl rfl (Nat.le_of_ble_eq_true rfl) dX2_certify_59 (hIn (13 + i) (by omega)) (fun H H1 h hc hz ho => pgR.putD h jh5 (by decide) pgDs10 hc ho) ?_
          refine j_iinc B (v := (x + 1)) (L' := [(2, .int (x + 1)), (6, .ref (ad (13 + i))), (5, .int (nI i)), (4, .int 60), (3, .ref (ad 1)), (1, .int k0), (0, .ref (ad 0))]) dX2_certify_62 4 rfl rfl (by decide) rfl ?_
          refine j_iinc B (v := nI (i + 1)) (L' := [(5, .int (nI (i + 1))), (2, .int (x + 1)), (6, .ref (ad (13 + i))), (4, .int 60), (3, .ref (ad 1)), (1, .int k0), (0, .ref (ad 0))]) dX2_certify_65 2 rfl (nI_1 i) (by decide) rfl ?_
          refine j_goto B 18 dX2_certify_68 (by decide) ?_
          refine j_locals [0, 3, 4, 1, 5, 6] rfl ?_
          have z : σ 2 i = k0 ∧ pgAw σ i := ⟨by assumption, (pgCeM_aw (k := k0) (v := σ 13 4) (by assumption)).mp (by assumption)⟩
          exact j_world (fun H h => pgR.eq h (pgCeM_t (by assumption) z)) (ih hlt _ (pgN_t2 hv (decide_eq_true ⟨by assumption, z⟩)))
        · obtain rfl : r8 = 0 := by rw [hp9]; exact if_neg h10
          refine j_if_eq B 65 dX2_certify_50 (by decide) (fun h12 => ?_) (fun h12 => (absurd (by decide) h12))
          refine j_iinc B (v := nI (i + 1)) (L' := [(5, .int (nI (i + 1))), (6, .ref (ad (13 + i))), (4, .int 60), (3, .ref (ad 1)), (2, .int x), (1, .int k0), (0, .ref (ad 0))]) dX2_certify_65 1 rfl (nI_1 i) (by decide) rfl ?_
          refine j_goto B 18 dX2_certify_68 (by decide) ?_
          refine j_locals [0, 2, 3, 4, 5, 6] rfl ?_
          have z : ¬ (σ 2 i = k0 ∧ pgAw σ i) := fun q => absurd ((pgCeM_aw (k := k0) (v := σ 13 4) (by assumption)).mpr q.2) (by assumption)
          exact j_world (fun H h => pgR.eq h (pgCeM_f (by assumption) z)) (ih hlt _ (pgN_f2 hv (fun q => z (of_decide_eq_true q).2)))
end
section
/-- the row of the method's table that takes an exception of code k at pc, and where it goes on -/
def pgCatch (args : Array Value) (s : State) (c : Code) (own : String) (pc k h : Nat) : Prop :=
  ∃ (pre : List ExceptionTableEntry) (x : ExceptionTableEntry) (suf : List ExceptionTableEntry) (name : String), c.exceptionTable.toList = pre ++ x :: suf ∧ (∀ z ∈ pre, covers z pc = false ∨ (z.catchType ≠ 0 ∧ ∃ nm : String, (Cond.classLink own z.catchType nm).before args s = true ∧ va_Nc (pgExn k) nm s)) ∧ covers x pc = true ∧ x.catchType ≠ 0 ∧ (Cond.classLink own x.catchType name).before args s = true ∧ (Cond.castable (pgExn k) name).before args s = true ∧ x.handlerPc = h
theorem pg_c0 : (0 : Int32).toNatClampNeg = 0 := by decide
theorem pg_in01 : vp_in (0 : Int32) 1 := by
  have h : vp_in (nI 0) 1 := vp_in_nI (by omega) (by omega)
  rwa [nI_0] at h
section PGL
variable {p : Program} {l : Launch} {e : Env} {R : Room} {s : State} {m : MethodId} {args : Array Value} {below : List Frame} {meth : Method} {c : Code} {own : String} {cc : ByteArray} {nL : Nat} {D : va_G} {tys : List (ClassId × FieldType)} {A : Nat → Prop} {Wd : Heap → Prop} {cells slots : Nat} {Q : State → Prop} {pc : Nat} {L : List (Nat × Value)} {st stk : List Value}
theorem pgB_nc (B : pgB p m c s args meth own cc nL D tys A) (q : String × String) (hq : q ∈ pgNC) : va_Nc q.1 q.2 s := B.2.2.2.2.2.2.2.2.2.2.1.1 q hq
theorem pgB_nw (B : pgB p m c s args meth own cc nL D tys A) {w : Cond} (hw : w ∈ pgNw) (hon : w.onTables = true) : w.before args s = true := va_tabs hon rfl (B.2.2.2.2.2.2.2.2.2.1 w hw)
theorem j_wVi (B : pgB p m c s args meth own cc nL D tys A) {S : Type} {y : MethodName} {bytes : ByteArray} {maxL : Nat} {ret : Option FieldType} {rm : Room} {idx : Nat} (n : Nat) {b : Nat} (As : List Value) {WdC : Heap → Prop} {A1 : Nat → Prop} {post : Int32 → S → Prop} {WdC' : S → Heap → Prop} {pxC : Nat → Prop} {WdX : Heap → Prop} (Wd' : S → Heap → Prop) (WdX' : Heap → Prop) (hM : vx_Met l y (.code y bytes maxL ret :: pgWd) rm (pgPc D tys A1 WdC (.ref b :: As)) (va_Qi post (fun u t => WdC' u t.heap) A1) (pgX A1 pxC WdX) rm.cells rm.slots A1) {C : String} {T : u_T} {N ci : Nat} {fs : List Value} (hc : vwCl[ci]? = some (C, T, N)) (hat : ∀ H, Wd H → va_at D vwCl (b, .inr (ci, fs)) H) (q1 : Cond.methodLink own idx y ∈ pgWd) (q2 : Cond.instanceMethod y ∈ pgWd) (q3 : Cond.selects C y y ∈ pgWd) (q4 : Cond.initialized C ∈ pgWd) (q5 : Cond.code y bytes maxL ret ∈ pgWd) (hd : y.cls = C ∧ y.cls ≠ "java/lang/invoke/MethodHandle" ∧ y.cls ≠ "java/lang/invoke/VarHandle" ∧ (parseMethodDescriptor y.desc).map (fun d => d.parameters.length) = some n) (hn : As.length = n) (hR : rm.frames + 1 ≤ R.frames ∧ 8 + (maxL + 11) + rm.locals ≤ R.locals) (hcat : (st.map fun v => v.category).sum ≤ 8) (hdg : decode cc pc = .ok (.invokevirtual idx, 3)) (hstk : stk = As.reverse ++ .ref b :: st) (hcl : cells + rm.cells ≤ R.cells ∧ slots + rm.slots ≤ R.slots) (hA : ∀ q, A1 q → A q) (hN : ∀ (H : Heap), Wd H → ∀ q : Nat, H.size ≤ q → A q → A1 q) (cut : ∀ H, Wd H → WdC H) (back : ∀ (H H1 : Heap) (u : S), Wd H → WdC' u H1 → H.size ≤ H1.size → (∀ q : Nat, q < H.size → ¬ A1 q → H1[q]? = H[q]?) → Wd' u H1) (backX : ∀ (H H1 : Heap), Wd H → WdX H1 → H.size ≤ H1.size → (∀ q : Nat, q < H.size → ¬ A1 q → H1[q]? = H[q]?) → WdX' H1) (kx : ∀ k, pxC k → ∃ h, pgCatch args s c own pc k h ∧ ∀ q9 : Nat, pgJ p l e R s m args below meth c nL A (WdX') (cells + rm.cells) (slots + rm.slots) (Q) h (L) [.ref q9]) (kk : ∀ (r : Int32) (u : S), post r u → pgJ p l e R s m args below meth c nL A (Wd' u) (cells + rm.cells) (slots + rm.slots) (Q) (pc + 3) (L) (.int r :: st)) : pgJ p l e R s m args below meth c nL A (Wd) (cells) (slots) (Q) (pc) (L) (stk) := by
  subst hstk
  intro H locs ls hS hW hl
  exact vx_calli (vx_runV (As := As) (rest := st) ⟨B.1, B.2.1, B.2.2.1, B.2.2.2.1, B.2.2.2.2.1⟩ hM (cwV n B.2.2.2.2.1 (pgGV q1 q2 q3 q4 q5) rfl rfl rfl hd hR) ⟨pgBlind, va_recv B.2.2.2.2.2.2.1 (pg_one (hat H hW)) hc (q0 := 0) rfl, (fun U hU hWm => ⟨rfl, pg_narrowAt B.2.2.2.2.2.2 hS hU hWm hA (hN H hW), by rw [hU]; exact cut H hW⟩)⟩ rfl hn hl.1 rfl (lv_room hcat) hdg hcl) hS (fun q _ h => hA q h) hA (fun q _ h => hA q h) (fun E ce q9 k t H1 locs1 ht1 hvm hp hB hz hk hS1 hce hcv hcl9 => by
    obtain ⟨h, ⟨pre, x, suf, name, c1, c2, c3, c4, c5, c6, c7⟩, kj⟩ := kx k hp
    obtain ⟨hE, hWx⟩ := hB
    subst hE
    refine vx_catch B.2.2.2.1 pre x suf c1 c2 c3 c4 c5 c6 hce hcv hcl9 ?_
    rw [c7]
    exact kj q9 H1 locs1 ls hS1 (backX H H1 hW (by rw [← ht1]; exact hWx) hz hk) hl) (fun r u t H1 locs1 ht hvm hp hB hz hk hS1 => kk r u hp H1 locs1 ls hS1 (back H H1 u hW (by rw [← ht]; exact hB) hz hk) hl)
end PGL
section PVR
variable {p : Program} {l : Launch} {e : Env} {R : Room} {s : State} {m : MethodId} {args : Array Value} {below : List Frame} {meth : Method} {c : Code} {own : String} {cc : ByteArray} {nL : Nat} {D : va_G} {tys : List (ClassId × FieldType)} {A : Nat → Prop} {Wd : Heap → Prop} {cells slots : Nat} {Q : State → Prop} {pc : Nat} {L L' : List (Nat × Value)} {st stk : List Value}
theorem j_addv (B : pgB p m c s args meth own cc nL D tys A) {x y : Int32} (v : Int32) (hv : x + y = v) (hdg : decode cc pc = .ok (.iadd, 1)) (kk : pgJ p l e R s m args below meth c nL A (Wd) (cells) (slots) (Q) (pc + 1) (L) (.int v :: st)) : pgJ p l e R s m args below meth c nL A (Wd) (cells) (slots) (Q) (pc) (L) (.int y :: .int x :: st) := by subst hv; exact fun H locs ls hS hW hl => lv_iadd B.1 B.2.1 hdg (kk H locs ls hS hW hl)
theorem j_subv (B : pgB p m c s args meth own cc nL D tys A) {x y : Int32} (v : Int32) (hv : x - y = v) (hdg : decode cc pc = .ok (.isub, 1)) (kk : pgJ p l e R s m args below meth c nL A (Wd) (cells) (slots) (Q) (pc + 1) (L) (.int v :: st)) : pgJ p l e R s m args below meth c nL A (Wd) (cells) (slots) (Q) (pc) (L) (.int y :: .int x :: st) := by subst hv; exact fun H locs ls hS hW hl => lv_isub B.1 B.2.1 hdg (kk H locs ls hS hW hl)
theorem j_mulv (B : pgB p m c s args meth own cc nL D tys A) {x y : Int32} (v : Int32) (hv : x * y = v) (hdg : decode cc pc = .ok (.imul, 1)) (kk : pgJ p l e R s m args below meth c nL A (Wd) (cells) (slots) (Q) (pc + 1) (L) (.int v :: st)) : pgJ p l e R s m args below meth c nL A (Wd) (cells) (slots) (Q) (pc) (L) (.int y :: .int x :: st) := by subst hv; exact fun H locs ls hS hW hl => lv_imul B.1 B.2.1 hdg (kk H locs ls hS hW hl)
theorem j_andv (B : pgB p m c s args meth own cc nL D tys A) {x y : Int32} (v : Int32) (hv : x &&& y = v) (hdg : decode cc pc = .ok (.iand, 1)) (kk : pgJ p l e R s m args below meth c nL A (Wd) (cells) (slots) (Q) (pc + 1) (L) (.int v :: st)) : pgJ p l e R s m args below meth c nL A (Wd) (cells) (slots) (Q) (pc) (L) (.int y :: .int x :: st) := by subst hv; exact fun H locs ls hS hW hl => lv_iand B.1 B.2.1 hdg (kk H locs ls hS hW hl)
theorem j_orv (B : pgB p m c s args meth own cc nL D tys A) {x y : Int32} (v : Int32) (hv : x ||| y = v) (hdg : decode cc pc = .ok (.ior, 1)) (kk : pgJ p l e R s m args below meth c nL A (Wd) (cells) (slots) (Q) (pc + 1) (L) (.int v :: st)) : pgJ p l e R s m args below meth c nL A (Wd) (cells) (slots) (Q) (pc) (L) (.int y :: .int x :: st) := by subst hv; exact fun H locs ls hS hW hl => lv_ior B.1 B.2.1 hdg (kk H locs ls hS hW hl)
theorem j_remv (B : pgB p m c s args meth own cc nL D tys A) {x y : Int32} (v : Int32) (hv : x - x / y * y = v) (hne : ¬ y = 0) (hdg : decode cc pc = .ok (.irem, 1)) (kk : pgJ p l e R s m args below meth c nL A (Wd) (cells) (slots) (Q) (pc + 1) (L) (.int v :: st)) : pgJ p l e R s m args below meth c nL A (Wd) (cells) (slots) (Q) (pc) (L) (.int y :: .int x :: st) := by subst hv; exact fun H locs ls hS hW hl => lv_irem B.1 B.2.1 hdg hne (kk H locs ls hS hW hl)
theorem j_divv (B : pgB p m c s args meth own cc nL D tys A) {x y : Int32} (v : Int32) (hv : x / y = v) (hne : ¬ y = 0) (hdg : decode cc pc = .ok (.idiv, 1)) (kk : pgJ p l e R s m args below meth c nL A (Wd) (cells) (slots) (Q) (pc + 1) (L) (.int v :: st)) : pgJ p l e R s m args below meth c nL A (Wd) (cells) (slots) (Q) (pc) (L) (.int y :: .int x :: st) := by subst hv; exact fun H locs ls hS hW hl => lv_idiv B.1 B.2.1 hdg hne (kk H locs ls hS hW hl)
theorem j_shlv (B : pgB p m c s args meth own cc nL D tys A) {x y : Int32} (v : Int32) (hv : x <<< (y &&& 31) = v) (hdg : decode cc pc = .ok (.ishl, 1)) (kk : pgJ p l e R s m args below meth c nL A (Wd) (cells) (slots) (Q) (pc + 1) (L) (.int v :: st)) : pgJ p l e R s m args below meth c nL A (Wd) (cells) (slots) (Q) (pc) (L) (.int y :: .int x :: st) := by subst hv; exact fun H locs ls hS hW hl => lv_ishl B.1 B.2.1 hdg (kk H locs ls hS hW hl)
theorem j_shrv (B : pgB p m c s args meth own cc nL D tys A) {x y : Int32} (v : Int32) (hv : x >>> (y &&& 31) = v) (hdg : decode cc pc = .ok (.ishr, 1)) (kk : pgJ p l e R s m args below meth c nL A (Wd) (cells) (slots) (Q) (pc + 1) (L) (.int v :: st)) : pgJ p l e R s m args below meth c nL A (Wd) (cells) (slots) (Q) (pc) (L) (.int y :: .int x :: st) := by subst hv; exact fun H locs ls hS hW hl => lv_ishr B.1 B.2.1 hdg (kk H locs ls hS hW hl)
theorem j_lshl (B : pgB p m c s args meth own cc nL D tys A) {x : Int64} {y : Int32} (hdg : decode cc pc = .ok (.lshl, 1)) (kk : pgJ p l e R s m args below meth c nL A (Wd) (cells) (slots) (Q) (pc + 1) (L) (.long (x <<< (y.toInt64 &&& 63)) :: st)) : pgJ p l e R s m args below meth c nL A (Wd) (cells) (slots) (Q) (pc) (L) (.int y :: .long x :: st) := fun H locs ls hS hW hl => lv_lshl B.1 B.2.1 hdg rfl (kk H locs ls hS hW hl)
theorem j_lshr (B : pgB p m c s args meth own cc nL D tys A) {x : Int64} {y : Int32} (hdg : decode cc pc = .ok (.lshr, 1)) (kk : pgJ p l e R s m args below meth c nL A (Wd) (cells) (slots) (Q) (pc + 1) (L) (.long (x >>> (y.toInt64 &&& 63)) :: st)) : pgJ p l e R s m args below meth c nL A (Wd) (cells) (slots) (Q) (pc) (L) (.int y :: .long x :: st) := fun H locs ls hS hW hl => lv_lshr B.1 B.2.1 hdg rfl (kk H locs ls hS hW hl)
theorem j_land (B : pgB p m c s args meth own cc nL D tys A) {x y : Int64} (hdg : decode cc pc = .ok (.land, 1)) (kk : pgJ p l e R s m args below meth c nL A (Wd) (cells) (slots) (Q) (pc + 1) (L) (.long (x &&& y) :: st)) : pgJ p l e R s m args below meth c nL A (Wd) (cells) (slots) (Q) (pc) (L) (.long y :: .long x :: st) := fun H locs ls hS hW hl => lv_land B.1 B.2.1 hdg (kk H locs ls hS hW hl)
theorem j_lor (B : pgB p m c s args meth own cc nL D tys A) {x y : Int64} (hdg : decode cc pc = .ok (.lor, 1)) (kk : pgJ p l e R s m args below meth c nL A (Wd) (cells) (slots) (Q) (pc + 1) (L) (.long (x ||| y) :: st)) : pgJ p l e R s m args below meth c nL A (Wd) (cells) (slots) (Q) (pc) (L) (.long y :: .long x :: st) := fun H locs ls hS hW hl => lv_lor B.1 B.2.1 hdg (kk H locs ls hS hW hl)
theorem j_lxor (B : pgB p m c s args meth own cc nL D tys A) {x y : Int64} (hdg : decode cc pc = .ok (.lxor, 1)) (kk : pgJ p l e R s m args below meth c nL A (Wd) (cells) (slots) (Q) (pc + 1) (L) (.long (x ^^^ y) :: st)) : pgJ p l e R s m args below meth c nL A (Wd) (cells) (slots) (Q) (pc) (L) (.long y :: .long x :: st) := fun H locs ls hS hW hl => lv_lxor B.1 B.2.1 hdg (kk H locs ls hS hW hl)
theorem j_lload_n (B : pgB p m c s args meth own cc nL D tys A) {k : Fin 4} {i : Nat} {x : Int64} (hdg : decode cc pc = .ok (.lload_n k, 1)) (pl : Nat) (hL : L[pl]? = some (i, .long x)) (hi : (k : Nat) = i) (kk : pgJ p l e R s m args below meth c nL A (Wd) (cells) (slots) (Q) (pc + 1) (L) (.long x :: st)) : pgJ p l e R s m args below meth c nL A (Wd) (cells) (slots) (Q) (pc) (L) (st) := fun H locs ls hS hW hl => lv_lload_n B.1 B.2.1 hdg hi (lv_at hl pl hL) (kk H locs ls hS hW hl)
theorem j_lload (B : pgB p m c s args meth own cc nL D tys A) {i : Nat} {x : Int64} (hdg : decode cc pc = .ok (.lload i, 2)) (pl : Nat) (hL : L[pl]? = some (i, .long x)) (kk : pgJ p l e R s m args below meth c nL A (Wd) (cells) (slots) (Q) (pc + 2) (L) (.long x :: st)) : pgJ p l e R s m args below meth c nL A (Wd) (cells) (slots) (Q) (pc) (L) (st) := fun H locs ls hS hW hl => lv_lload B.1 B.2.1 hdg (lv_at hl pl hL) (kk H locs ls hS hW hl)
theorem j_lstore (B : pgB p m c s args meth own cc nL D tys A) {i : Nat} {x : Int64} (hdg : decode cc pc = .ok (.lstore i, 2)) (hn : i + 1 < nL) (hL : (i, Value.long x) :: L.filter (fun q => !(q.1 == i) && (!(q.1 == i + 1) && !(q.1 + 1 == i && q.2.category == 2))) = L') (kk : pgJ p l e R s m args below meth c nL A (Wd) (cells) (slots) (Q) (pc + 2) (L') (st)) : pgJ p l e R s m args below meth c nL A (Wd) (cells) (slots) (Q) (pc) (L) (Value.long x :: st) := fun H locs ls hS hW hl => lv_lstore B.1 B.2.1 hdg hl hn hL (fun ls2 hl2 => kk H locs ls2 hS hW hl2)
theorem j_dup2 (B : pgB p m c s args meth own cc nL D tys A) {va vb : Value} (hdg : decode cc pc = .ok (.dup2, 1)) (hva : va.category = 1) (hvb : vb.category = 1) (kk : pgJ p l e R s m args below meth c nL A (Wd) (cells) (slots) (Q) (pc + 1) (L) (va :: vb :: va :: vb :: st)) : pgJ p l e R s m args below meth c nL A (Wd) (cells) (slots) (Q) (pc) (L) (va :: vb :: st) := fun H locs ls hS hW hl => lv_dup2_11 B.1 B.2.1 hdg hva hvb (kk H locs ls hS hW hl)
theorem j_sipush (B : pgB p m c s args meth own cc nL D tys A) {n : Int} {v : Int32} (hdg : decode cc pc = .ok (.sipush n, 3)) (hv : (Int16.ofInt n).toInt32 = v) (kk : pgJ p l e R s m args below meth c nL A (Wd) (cells) (slots) (Q) (pc + 3) (L) (.int v :: st)) : pgJ p l e R s m args below meth c nL A (Wd) (cells) (slots) (Q) (pc) (L) (st) := fun H locs ls hS hW hl => lv_sipush B.1 B.2.1 hdg hv (kk H locs ls hS hW hl)
theorem j_ldc (B : pgB p m c s args meth own cc nL D tys A) {index : Nat} {v : Int32} (hq : Cond.constant own index v ∈ pgWd) (hdg : decode cc pc = .ok (.ldc index, 2)) (kk : pgJ p l e R s m args below meth c nL A (Wd) (cells) (slots) (Q) (pc + 2) (L) (.int v :: st)) : pgJ p l e R s m args below meth c nL A (Wd) (cells) (slots) (Q) (pc) (L) (st) := fun H locs ls hS hW hl => lv_ldc B.1 B.2.1 B.2.2.2.1 (B.2.2.2.2.1 _ hq) hdg (kk H locs ls hS hW hl)
theorem j_bool {P : Prop} {v : Int32} (h : v = 1 ∧ P ∨ v = 0 ∧ ¬ P) (k1 : P → pgJ p l e R s m args below meth c nL A (Wd) (cells) (slots) (Q) (pc) (L) (.int 1 :: st)) (k0 : ¬ P → pgJ p l e R s m args below meth c nL A (Wd) (cells) (slots) (Q) (pc) (L) (.int 0 :: st)) : pgJ p l e R s m args below meth c nL A (Wd) (cells) (slots) (Q) (pc) (L) (.int v :: st) := by
  rcases h with ⟨rfl, h⟩ | ⟨rfl, h⟩
  · exact k1 h
  · exact k0 h
theorem j_eqL {L1 : List (Nat × Value)} {st1 : List Value} {pc1 : Nat} (hp : pc1 = pc) (hL : L1 = L) (hs : st1 = st) (kk : pgJ p l e R s m args below meth c nL A (Wd) (cells) (slots) (Q) (pc) (L) (st)) : pgJ p l e R s m args below meth c nL A (Wd) (cells) (slots) (Q) (pc1) (L1) (st1) := by subst hp; subst hL; subst hs; exact kk
end PVR
/-! bits of a long -/
def pvB (m : Int64) (j : Nat) : Prop := m.toBitVec.getLsbD j = true
theorem pv_s64 : ∀ j, j < 64 → (((nI j).toInt64 &&& 63).toBitVec.smod 64).toNat = j := by decide +kernel
theorem pv_sh : ∀ k, k < 64 → ((1 : Int64) <<< ((nI k).toInt64 &&& 63)).toBitVec = BitVec.twoPow 64 k := by decide +kernel
theorem pv_z1 : ∀ k, k < 64 → ((1 : Int64) <<< ((nI k).toInt64 &&& 63)) ≠ 0 := by decide +kernel
theorem pv_bit1 {m : Int64} {j : Nat} (hj : j < 64) (h : pvB m j) : (m >>> ((nI j).toInt64 &&& 63)) &&& 1 = 1 := by
  apply Int64.toBitVec_inj.mp
  rw [Int64.toBitVec_and, Int64.toBitVec_shiftRight]
  show (m.toBitVec.sshiftRight (((nI j).toInt64 &&& 63).toBitVec.smod 64).toNat &&& 1#64) = 1#64
  rw [pv_s64 j hj]
  apply BitVec.eq_of_getLsbD_eq
  intro i hi
  unfold pvB at h
  rw [BitVec.getLsbD_and, BitVec.getLsbD_sshiftRight]
  cases i with
  | zero => simp [h, hj]
  | succ i => simp
theorem pv_bit0 {m : Int64} {j : Nat} (hj : j < 64) (h : ¬ pvB m j) : (m >>> ((nI j).toInt64 &&& 63)) &&& 1 = 0 := by
  apply Int64.toBitVec_inj.mp
  rw [Int64.toBitVec_and, Int64.toBitVec_shiftRight]
  show (m.toBitVec.sshiftRight (((nI j).toInt64 &&& 63).toBitVec.smod 64).toNat &&& 1#64) = 0#64
  rw [pv_s64 j hj]
  apply BitVec.eq_of_getLsbD_eq
  intro i hi
  unfold pvB at h
  rw [BitVec.getLsbD_and, BitVec.getLsbD_sshiftRight]
  cases i with
  | zero =>
    have h2 : m.toBitVec.getLsbD j = false := Bool.eq_false_iff.mpr h
    simp [hj]
    exact (BitVec.getLsbD_eq_getElem hj).symm.trans h2
  | succ i => simp
/-- (m >> j & 1L) against 1L -/
theorem pv_c1 {m : Int64} {j : Nat} (hj : j < 64) : lg_cmp ((m >>> ((nI j).toInt64 &&& 63)) &&& 1) 1 = 0 ↔ pvB m j := by
  by_cases h : pvB m j
  · rw [pv_bit1 hj h]; exact ⟨fun _ => h, fun _ => by decide⟩
  · rw [pv_bit0 hj h]; exact ⟨fun z => absurd z (by decide), fun z => absurd z h⟩
theorem pv_c0 {m : Int64} {j : Nat} (hj : j < 64) : lg_cmp ((m >>> ((nI j).toInt64 &&& 63)) &&& 1) 0 = 0 ↔ ¬ pvB m j := by
  by_cases h : pvB m j
  · rw [pv_bit1 hj h]; exact ⟨fun z => absurd z (by decide), fun z => absurd h z⟩
  · rw [pv_bit0 hj h]; exact ⟨fun _ => h, fun _ => by decide⟩
theorem pvB_0 {j : Nat} : ¬ pvB 0 j := by
  unfold pvB
  rw [show (0 : Int64).toBitVec = 0#64 from rfl, BitVec.getLsbD_zero]
  decide
theorem pvB_1 {j k : Nat} (hk : k < 64) : pvB ((1 : Int64) <<< ((nI k).toInt64 &&& 63)) j ↔ j = k := by
  unfold pvB
  rw [pv_sh k hk, BitVec.getLsbD_twoPow]
  simp only [Bool.and_eq_true, decide_eq_true_eq]
  exact ⟨fun h => h.2.symm, fun h => ⟨hk, h.symm⟩⟩
theorem pvB_or {a b : Int64} {j : Nat} : pvB (a ||| b) j ↔ pvB a j ∨ pvB b j := by
  unfold pvB
  rw [Int64.toBitVec_or, BitVec.getLsbD_or, Bool.or_eq_true]
theorem pvB_xor {a b : Int64} {j : Nat} : pvB (a ^^^ b) j ↔ (pvB a j ∧ ¬ pvB b j) ∨ (¬ pvB a j ∧ pvB b j) := by
  unfold pvB
  rw [Int64.toBitVec_xor, BitVec.getLsbD_xor]
  cases a.toBitVec.getLsbD j <;> cases b.toBitVec.getLsbD j <;> decide
/-! numbers -/
theorem pv_div {a b : Nat} (ha : a < 2 ^ 31) (hb : b < 2 ^ 31) (h0 : 0 < b) : nI a / nI b = nI (a / b) := pk_div ha h0 hb
theorem pv_mul (a b : Nat) : nI a * nI b = nI (a * b) := (Int32.ofNat_mul a b).symm
theorem pv_rem {a b : Nat} (ha : a < 2 ^ 31) (h0 : 0 < b) (hb : b < 2 ^ 31) : nI a - nI a / nI b * nI b = nI (a % b) := pk_rem ha h0 hb
theorem pv_nm1 {k : Nat} (h : k < 2 ^ 31) : nI k ≠ -1 := fun z => nI_pos h (by rw [z]; decide)
theorem pv_m8 {k : Nat} (h : k < 2 ^ 31) : nI k ≠ -8 := fun z => nI_pos h (by rw [z]; decide)
theorem pv_0 {k : Nat} (h : k < 2 ^ 31) : nI k = 0 ↔ k = 0 := by
  rw [← nI_0]
  exact nI_eq h (by omega)
end
section
/-- the places of A but those of the law's own arrays -/
abbrev pvA (A : Nat → Prop) (ca : Nat → Nat) : Nat → Prop := fun z => A z ∧ ∀ k, k < 6 → z ≠ ca k
abbrev pvLen (k : Nat) : Nat := if k = 0 then 5 else if k = 3 then 10 else 60
/-- the law's world: the class, and the law's arrays: 0 numbers, 1 codes of the disks, 2 kinds, 3 counts of the crates, 4 doers, 5 the missing ones -/
def pvW (D : va_G) (cD cC cI cL : ClassId) (A : Nat → Prop) (σ : pgSt) (n : Nat) (ad : Nat → Nat) (φ : pgSt) (ca : Nat → Nat) (f : Nat → Int64) (H : Heap) : Prop :=
  pgR D cD cC (pvA A ca) σ n ad H ∧ (∀ k, k < 5 → va_at D vwCl (ca k, .inl (cI, pvLen k, .inl (φ k))) H) ∧ va_at D vwCl (ca 5, .inl (cL, 1, .inr (.inl f))) H ∧ (∀ a b, a < 6 → b < 6 → ca a = ca b → a = b) ∧ (∀ k, k < 6 → A (ca k))
section PVW
variable {D : va_G} {cD cC cI cL : ClassId} {A : Nat → Prop} {σ σ2 φ : pgSt} {n n2 : Nat} {ad ad2 ca : Nat → Nat} {f : Nat → Int64} {H H1 : Heap}
theorem pvW.x (h : pvW D cD cC cI cL A σ n ad φ ca f H) : va_at D vwCl (ad 0, .inr (2, pgXv ad σ)) H := h.1.x
theorem pvW.a0 (h : pvW D cD cC cI cL A σ n ad φ ca f H) : va_at D vwCl (ca 0, .inl (cI, 5, .inl (φ 0))) H := h.2.1 0 (by omega)
theorem pvW.a1 (h : pvW D cD cC cI cL A σ n ad φ ca f H) : va_at D vwCl (ca 1, .inl (cI, 60, .inl (φ 1))) H := h.2.1 1 (by omega)
theorem pvW.a2 (h : pvW D cD cC cI cL A σ n ad φ ca f H) : va_at D vwCl (ca 2, .inl (cI, 60, .inl (φ 2))) H := h.2.1 2 (by omega)
theorem pvW.a3 (h : pvW D cD cC cI cL A σ n ad φ ca f H) : va_at D vwCl (ca 3, .inl (cI, 10, .inl (φ 3))) H := h.2.1 3 (by omega)
theorem pvW.a4 (h : pvW D cD cC cI cL A σ n ad φ ca f H) : va_at D vwCl (ca 4, .inl (cI, 60, .inl (φ 4))) H := h.2.1 4 (by omega)
theorem pvW.a5 (h : pvW D cD cC cI cL A σ n ad φ ca f H) : va_at D vwCl (ca 5, .inl (cL, 1, .inr (.inl f))) H := h.2.2.1
theorem pvW.inA (h : pvW D cD cC cI cL A σ n ad φ ca f H) : ∀ k, k < 6 → A (ca k) := h.2.2.2.2
theorem pvW.lt (h : pvW D cD cC cI cL A σ n ad φ ca f H) {k : Nat} (hk : k < 6) : ca k < H.size := by
  by_cases e : k = 5
  · subst e; exact h.2.2.1.lt
  · exact (h.2.1 k (by omega)).lt
theorem pvW.new (h : pvW D cD cC cI cL A σ n ad φ ca f H) : ∀ q : Nat, H.size ≤ q → A q → pvA A ca q := fun q hq ha => ⟨ha, fun k hk e => by have := h.lt hk; omega⟩
/-- what a call of the class leaves -/
theorem pvW.cls (h : pvW D cD cC cI cL A σ n ad φ ca f H) (h1 : pgR D cD cC (pvA A ca) σ2 n2 ad2 H1) (hk : ∀ q : Nat, q < H.size → ¬ pvA A ca q → H1[q]? = H[q]?) : pvW D cD cC cI cL A σ2 n2 ad2 φ ca f H1 := by
  have e : ∀ k, k < 6 → H1[ca k]? = H[ca k]? := fun k hk9 => hk _ (h.lt hk9) (fun z => z.2 k hk9 rfl)
  exact ⟨h1, fun k hk9 => (h.2.1 k hk9).kept (e k (by omega)), h.2.2.1.kept (e 5 (by omega)), h.2.2.2⟩
theorem pvW.put (h : pvW D cD cC cI cL A σ n ad φ ca f H) {k i : Nat} {x : Int32} (hk : k < 5) (hc : va_at D vwCl (ca k, .inl (cI, pvLen k, .inl (upd (φ k) i x))) H1) (ho : ∀ q : Nat, q ≠ ca k → H1[q]? = H[q]?) : pvW D cD cC cI cL A σ n ad (pgU φ k i x) ca f H1 := by
  refine ⟨h.1.kept (fun a ha => ho _ ((h.1.2.2 a ha).2 k (by omega))), fun j hj => ?_, h.2.2.1.kept (ho _ (fun e => by have := h.2.2.2.1 5 k (by omega) (by omega) e; omega)), h.2.2.2⟩
  by_cases e : j = k
  · subst e
    rw [show pgU φ j i x j = upd (φ j) i x by
      funext a
      simp [pgU, upd]]
    exact hc
  · rw [show pgU φ k i x j = φ j by
      funext a
      exact pgU_ne e]
    exact (h.2.1 j hj).kept (ho _ (fun z => e (h.2.2.2.1 j k (by omega) (by omega) z)))
theorem pvW.putL (h : pvW D cD cC cI cL A σ n ad φ ca f H) {i : Nat} {x : Int64} (hc : va_at D vwCl (ca 5, .inl (cL, 1, .inr (.inl (vp_updL f i x)))) H1) (ho : ∀ q : Nat, q ≠ ca 5 → H1[q]? = H[q]?) : pvW D cD cC cI cL A σ n ad φ ca (vp_updL f i x) H1 :=
  ⟨h.1.kept (fun a ha => ho _ ((h.1.2.2 a ha).2 5 (by omega))), fun j hj => (h.2.1 j hj).kept (ho _ (fun e => by have := h.2.2.2.1 j 5 (by omega) (by omega) e; omega)), hc, h.2.2.2⟩
theorem pvW.eqF {φ2 : pgSt} (h : pvW D cD cC cI cL A σ n ad φ ca f H) (e : φ = φ2) : pvW D cD cC cI cL A σ n ad φ2 ca f H := e ▸ h
end PVW
section PVC
variable {p : Program} {l : Launch} {e : Env} {R : Room} {s : State} {m : MethodId} {args : Array Value} {below : List Frame} {meth : Method} {c : Code} {own : String} {cc : ByteArray} {nL : Nat} {D : va_G} {tys : List (ClassId × FieldType)} {A : Nat → Prop} {Wd : Heap → Prop} {cells slots : Nat} {Q : State → Prop} {pc : Nat} {L L' : List (Nat × Value)} {st stk : List Value}
variable {cD cC cI cZ cL : ClassId} {σ φ : pgSt} {n : Nat} {ad ca : Nat → Nat} {f : Nat → Int64}
/-- the class asked or told something that it doesn't refuse -/
theorem j_ask (B : pgB p m c s args meth own cc nL D (pgTys cD cC cI cZ cL) A) {y : MethodName} {bytes : ByteArray} {maxL : Nat} {ret : Option FieldType} {rm : Room} {idx : Nat} {S : pgRes} (v : Int32) {σ2 : pgSt} (n1 : Nat) (As : List Value) (hM : vx_Met l y (.code y bytes maxL ret :: pgWd) rm (pgPc D (pgTys cD cC cI cZ cL) (pvA A ca) (pgR D cD cC (pvA A ca) σ n ad) (.ref (ad 0) :: As)) (va_Qi (fun (r : Int32) (_ : Unit) => S.1 = 0 ∧ r = S.2.1) (fun _ t9 => pgR D cD cC (pvA A ca) S.2.2 n ad t9.heap) (pvA A ca)) (pgX (pvA A ca) (fun k => S.1 = k ∧ k ≠ 0) (pgR D cD cC (pvA A ca) σ n ad)) rm.cells rm.slots (pvA A ca)) (hS : S = (0, v, σ2)) (q1 : Cond.methodLink own idx y ∈ pgWd) (q2 : Cond.instanceMethod y ∈ pgWd) (q3 : Cond.selects RX2 y y ∈ pgWd) (q4 : Cond.initialized RX2 ∈ pgWd) (q5 : Cond.code y bytes maxL ret ∈ pgWd) (hd : y.cls = RX2 ∧ y.cls ≠ "java/lang/invoke/MethodHandle" ∧ y.cls ≠ "java/lang/invoke/VarHandle" ∧ (parseMethodDescriptor y.desc).map (fun d => d.parameters.length) = some n1) (hn : As.length = n1) (hR : rm.frames + 1 ≤ R.frames ∧ 8 + (maxL + 11) + rm.locals ≤ R.locals) (hcat : (st.map fun v => v.category).sum ≤ 8) (hdg : decode cc pc = .ok (.invokevirtual idx, 3)) (hstk : stk = As.reverse ++ .ref (ad 0) :: st) (k9 n9 : Nat) (hk : cells + rm.cells ≤ k9 ∧ slots + rm.slots ≤ n9) (hcl : k9 ≤ R.cells ∧ n9 ≤ R.slots) (kk : pgJ p l e R s m args below meth c nL A (pvW D cD cC cI cL A σ2 n ad φ ca f) (k9) (n9) (Q) (pc + 3) (L) (.int v :: st)) : pgJ p l e R s m args below meth c nL A (pvW D cD cC cI cL A σ n ad φ ca f) (cells) (slots) (Q) (pc) (L) (stk) := by
  subst hS
  refine j_wVi B n1 As (Wd' := fun _ => pvW D cD cC cI cL A σ2 n ad φ ca f) (WdX' := pvW D cD cC cI cL A σ n ad φ ca f) hM rfl (fun H h => h.x) q1 q2 q3 q4 q5 hd hn hR hcat hdg hstk ⟨Nat.le_trans hk.1 hcl.1, Nat.le_trans hk.2 hcl.2⟩ (fun _ h => h.1) (fun H h q hq hA => h.new q hq hA) (fun H h => h.1) (fun H H1 u h h1 hz hk => h.cls h1 hk) (fun H H1 h h1 hz hk => h.cls h1 hk) (fun k hk => absurd hk.1.symm hk.2) (fun r u hp => ?_)
  obtain ⟨-, rfl⟩ := hp
  exact j_widen hk.1 hk.2 kk
/-- .. something that it answers with no throw at all -/
theorem j_ask0 (B : pgB p m c s args meth own cc nL D (pgTys cD cC cI cZ cL) A) {y : MethodName} {bytes : ByteArray} {maxL : Nat} {ret : Option FieldType} {rm : Room} {idx : Nat} {v : Int32} (n1 : Nat) (As : List Value) (hM : Met l y (.code y bytes maxL ret :: pgWd) rm (pgPc D (pgTys cD cC cI cZ cL) (pvA A ca) (pgR D cD cC (pvA A ca) σ n ad) (.ref (ad 0) :: As)) (va_Qi (fun (r : Int32) (_ : Unit) => r = v) (fun _ t9 => pgR D cD cC (pvA A ca) σ n ad t9.heap) (pvA A ca)) rm.cells rm.slots (pvA A ca)) (q1 : Cond.methodLink own idx y ∈ pgWd) (q2 : Cond.instanceMethod y ∈ pgWd) (q3 : Cond.selects RX2 y y ∈ pgWd) (q4 : Cond.initialized RX2 ∈ pgWd) (q5 : Cond.code y bytes maxL ret ∈ pgWd) (hd : y.cls = RX2 ∧ y.cls ≠ "java/lang/invoke/MethodHandle" ∧ y.cls ≠ "java/lang/invoke/VarHandle" ∧ (parseMethodDescriptor y.desc).map (fun d => d.parameters.length) = some n1) (hn : As.length = n1) (hR : rm.frames + 1 ≤ R.frames ∧ 8 + (maxL + 11) + rm.locals ≤ R.locals) (hcat : (st.map fun v => v.category).sum ≤ 8) (hdg : decode cc pc = .ok (.invokevirtual idx, 3)) (hstk : stk = As.reverse ++ .ref (ad 0) :: st) (k9 n9 : Nat) (hk : cells + rm.cells ≤ k9 ∧ slots + rm.slots ≤ n9) (hcl : k9 ≤ R.cells ∧ n9 ≤ R.slots) (kk : pgJ p l e R s m args below meth c nL A (pvW D cD cC cI cL A σ n ad φ ca f) (k9) (n9) (Q) (pc + 3) (L) (.int v :: st)) : pgJ p l e R s m args below meth c nL A (pvW D cD cC cI cL A σ n ad φ ca f) (cells) (slots) (Q) (pc) (L) (stk) := by
  refine j_cVi B n1 As (fun _ => pvW D cD cC cI cL A σ n ad φ ca f) hM rfl (fun H h => h.x) q1 q2 q3 q4 q5 hd hn hR hcat hdg hstk ⟨Nat.le_trans hk.1 hcl.1, Nat.le_trans hk.2 hcl.2⟩ (fun _ h => h.1) (fun H h q hq hA => h.new q hq hA) (fun H h => h.1) (fun H H1 u h h1 hz hk => h.cls h1 hk) (fun r u hp => ?_)
  subst hp
  exact j_widen hk.1 hk.2 kk
theorem j_lawI (B : pgB p m c s args meth own cc nL D tys A) {S : Type} {y : MethodName} {bytes : ByteArray} {maxL : Nat} {ret : Option FieldType} {rm : Room} {idx : Nat} (n1 : Nat) (As : List Value) {post : Int32 → S → Prop} {WdP : S → Heap → Prop} (hM : Met l y (Cond.code y bytes maxL ret :: pgWd) rm (pgPc D tys A Wd As) (va_Qi post (fun u t => WdP u t.heap) A) rm.cells rm.slots A) (q1 : Cond.methodLink own idx y ∈ pgWd) (q2 : Cond.static y ∈ pgWd) (q4 : Cond.initialized y.cls ∈ pgWd) (q5 : Cond.code y bytes maxL ret ∈ pgWd) (hd : y.cls ≠ "java/lang/invoke/MethodHandle" ∧ y.cls ≠ "java/lang/invoke/VarHandle" ∧ (parseMethodDescriptor y.desc).map (fun d => d.parameters.length) = some n1) (hn : As.length = n1) (hR : rm.frames + 1 ≤ R.frames ∧ 8 + (maxL + 11) + rm.locals ≤ R.locals) (hcat : (st.map fun v => v.category).sum ≤ 8) (hdg : decode cc pc = .ok (.invokestatic idx, 3)) (hstk : stk = As.reverse ++ st) (k9 n9 : Nat) (hk : cells + rm.cells ≤ k9 ∧ slots + rm.slots ≤ n9) (hcl : k9 ≤ R.cells ∧ n9 ≤ R.slots) (kk : ∀ (r : Int32) (u : S), post r u → pgJ p l e R s m args below meth c nL A (WdP u) (k9) (n9) (Q) (pc + 3) (L) (.int r :: st)) : pgJ p l e R s m args below meth c nL A (Wd) (cells) (slots) (Q) (pc) (L) (stk) :=
  j_cSi B n1 As (fun u => WdP u) hM q1 q2 q4 q5 hd hn hR hcat hdg hstk ⟨Nat.le_trans hk.1 hcl.1, Nat.le_trans hk.2 hcl.2⟩ (fun _ h => h) (fun _ _ _ _ h => h) (fun _ h => h) (fun _ _ _ _ h _ _ => h) (fun r u hp => j_widen hk.1 hk.2 (kk r u hp))
theorem j_lawW (B : pgB p m c s args meth own cc nL D tys A) {S : Type} {y : MethodName} {bytes : ByteArray} {maxL : Nat} {ret : Option FieldType} {hh : List (Nat × Nat × Nat × Nat)} {rm : Room} {idx : Nat} (n1 : Nat) (As : List Value) {post : Int32 → S → Prop} {WdP : S → Heap → Prop} (hM : Met l y (Cond.codeWith y bytes maxL ret hh :: pgWd) rm (pgPc D tys A Wd As) (va_Qi post (fun u t => WdP u t.heap) A) rm.cells rm.slots A) (q1 : Cond.methodLink own idx y ∈ pgWd) (q2 : Cond.static y ∈ pgWd) (q4 : Cond.initialized y.cls ∈ pgWd) (q5 : Cond.codeWith y bytes maxL ret hh ∈ pgWd) (hd : y.cls ≠ "java/lang/invoke/MethodHandle" ∧ y.cls ≠ "java/lang/invoke/VarHandle" ∧ (parseMethodDescriptor y.desc).map (fun d => d.parameters.length) = some n1) (hn : As.length = n1) (hR : rm.frames + 1 ≤ R.frames ∧ 8 + (maxL + 11) + rm.locals ≤ R.locals) (hcat : (st.map fun v => v.category).sum ≤ 8) (hdg : decode cc pc = .ok (.invokestatic idx, 3)) (hstk : stk = As.reverse ++ st) (k9 n9 : Nat) (hk : cells + rm.cells ≤ k9 ∧ slots + rm.slots ≤ n9) (hcl : k9 ≤ R.cells ∧ n9 ≤ R.slots) (kk : ∀ (r : Int32) (u : S), post r u → pgJ p l e R s m args below meth c nL A (WdP u) (k9) (n9) (Q) (pc + 3) (L) (.int r :: st)) : pgJ p l e R s m args below meth c nL A (Wd) (cells) (slots) (Q) (pc) (L) (stk) :=
  j_cWi B n1 As (fun u => WdP u) hM q1 q2 q4 q5 hd hn hR hcat hdg hstk ⟨Nat.le_trans hk.1 hcl.1, Nat.le_trans hk.2 hcl.2⟩ (fun _ h => h) (fun _ _ _ _ h => h) (fun _ h => h) (fun _ _ _ _ h _ _ => h) (fun r u hp => j_widen hk.1 hk.2 (kk r u hp))
theorem j_lawV (B : pgB p m c s args meth own cc nL D tys A) {S : Type} {y : MethodName} {bytes : ByteArray} {maxL : Nat} {ret : Option FieldType} {rm : Room} {idx : Nat} (n1 : Nat) (As : List Value) {post : S → Prop} {WdP : S → Heap → Prop} (hM : Met l y (Cond.code y bytes maxL ret :: pgWd) rm (pgPc D tys A Wd As) (va_Qv post (fun u t => WdP u t.heap) A) rm.cells rm.slots A) (q1 : Cond.methodLink own idx y ∈ pgWd) (q2 : Cond.static y ∈ pgWd) (q4 : Cond.initialized y.cls ∈ pgWd) (q5 : Cond.code y bytes maxL ret ∈ pgWd) (hd : y.cls ≠ "java/lang/invoke/MethodHandle" ∧ y.cls ≠ "java/lang/invoke/VarHandle" ∧ (parseMethodDescriptor y.desc).map (fun d => d.parameters.length) = some n1) (hn : As.length = n1) (hR : rm.frames + 1 ≤ R.frames ∧ 8 + (maxL + 11) + rm.locals ≤ R.locals) (hcat : (st.map fun v => v.category).sum ≤ 8) (hdg : decode cc pc = .ok (.invokestatic idx, 3)) (hstk : stk = As.reverse ++ st) (k9 n9 : Nat) (hk : cells + rm.cells ≤ k9 ∧ slots + rm.slots ≤ n9) (hcl : k9 ≤ R.cells ∧ n9 ≤ R.slots) (kk : ∀ (u : S), post u → pgJ p l e R s m args below meth c nL A (WdP u) (k9) (n9) (Q) (pc + 3) (L) (st)) : pgJ p l e R s m args below meth c nL A (Wd) (cells) (slots) (Q) (pc) (L) (stk) := by
  subst hstk
  intro H locs ls hS hW hl
  exact va_callv (va_runS (As := As) (rest := st) ⟨B.1, B.2.1, B.2.2.1, B.2.2.2.1, B.2.2.2.2.1⟩ hM (va_cwS n1 B.2.2.2.2.1 (pgGS q1 q2 q4 q5) rfl rfl rfl hd hR) ⟨pgBlind, (fun U hU hWm => ⟨rfl, pg_narrowAt B.2.2.2.2.2.2 hS hU hWm (fun _ h => h) (fun _ _ h => h), by rw [hU]; exact hW⟩)⟩ rfl hn hl.1 rfl (lv_room hcat) hdg ⟨Nat.le_trans hk.1 hcl.1, Nat.le_trans hk.2 hcl.2⟩) hS (fun q _ h => h) (fun q h => h) (fun u t H1 locs1 ht hvm hp hB hz hk9 hS1 => j_widen hk.1 hk.2 (kk u hp) H1 locs1 ls hS1 (by rw [← ht]; exact hB) hl)
end PVC
theorem pv_enter {l : Launch} {y : MethodName} {bytes : ByteArray} {maxL : Nat} {ty : FieldType} {rm : Room} {D : va_G} {tys : List (ClassId × FieldType)} {A : Nat → Prop} {Wd : Heap → Prop} {av : List Value} {S : Type} {post : Int32 → S → Prop} {WdP : S → Heap → Prop} {mc ms : Nat} {own : String} (hy : plainName y.cls = true) (hown : y.cls = own) (hsl : (lg_sl av).length ≤ maxL)
    (body : ∀ (p : Program) (e : Env) (s : State) (m : MethodId) (args : Array Value) (below : List Frame) (meth : Method) (c : Code) (Q : State → Prop), pgB p m c s args meth own bytes maxL D tys A → (∀ (pc : Nat) (L : List (Nat × Value)) (v : Int32) (u : S) (cells slots : Nat), decode bytes pc = .ok (.ireturn, 1) → narrow ty (.int v) = .int v → cells ≤ mc → slots ≤ ms → post v u → pgJ p l e rm s m args below meth c maxL A (WdP u) cells slots Q pc L [.int v]) → pgJ p l e rm s m args below meth c maxL A Wd 0 0 Q 0 (lv_args 0 av) []) : Met l y (.code y bytes maxL (some ty) :: pgWd) rm (pgPc D tys A Wd av) (va_Qi post (fun u t => WdP u t.heap) A) mc ms A := by
  refine pg_enter hy hown hsl (fun p e s m below meth c B hr hnm => ?_)
  exact body p e s m _ below meth c _ B (fun pc L v u cells slots hdg hn hc hs hpost => j_iret B hr hn hdg hc hs u hpost (fun H h => h))
theorem pv_enterW {l : Launch} {y : MethodName} {bytes : ByteArray} {maxL : Nat} {ty : FieldType} {hh : List (Nat × Nat × Nat × Nat)} {rm : Room} {D : va_G} {tys : List (ClassId × FieldType)} {A : Nat → Prop} {Wd : Heap → Prop} {av : List Value} {S : Type} {post : Int32 → S → Prop} {WdP : S → Heap → Prop} {mc ms : Nat} {own : String} (hy : plainName y.cls = true) (hown : y.cls = own) (hsl : (lg_sl av).length ≤ maxL)
    (body : ∀ (p : Program) (e : Env) (s : State) (m : MethodId) (args : Array Value) (below : List Frame) (meth : Method) (c : Code) (Q : State → Prop), pgB p m c s args meth own bytes maxL D tys A → c.exceptionTable.toList = tableOf hh → (∀ (pc : Nat) (L : List (Nat × Value)) (v : Int32) (u : S) (cells slots : Nat), decode bytes pc = .ok (.ireturn, 1) → narrow ty (.int v) = .int v → cells ≤ mc → slots ≤ ms → post v u → pgJ p l e rm s m args below meth c maxL A (WdP u) cells slots Q pc L [.int v]) → pgJ p l e rm s m args below meth c maxL A Wd 0 0 Q 0 (lv_args 0 av) []) : Met l y (.codeWith y bytes maxL (some ty) hh :: pgWd) rm (pgPc D tys A Wd av) (va_Qi post (fun u t => WdP u t.heap) A) mc ms A := by
  refine pg_enterW hy hown hsl (fun p e s m below meth c B hr ht => ?_)
  exact body p e s m _ below meth c _ B ht (fun pc L v u cells slots hdg hn hc hs hpost => j_iret B hr hn hdg hc hs u hpost (fun H h => h))
end
section
/-- what the law's 'disk' makes of a disk -/
def pvE (σ : pgSt) (k : Nat) : Int32 := σ 2 k + 8 * (σ 3 k + 1) + 88 * σ 4 k + 352 * (σ 6 k + 1) + 3168 * (if pgFin σ k then 1 else 0) + 6336 * (σ 9 k + 1)
/-- what holds of disk j -/
def pvD (σ φ : pgSt) (j : Nat) : Prop :=
  (∃ k, k < 8 ∧ σ 2 j = nI k) ∧ (σ 3 j = -1 ∨ (σ 10 (ix (σ 3 j)) = σ 2 j ∧ σ 6 j = -1)) ∧ (σ 6 j = -1 ∨ ((∃ k, k < 8 ∧ σ 6 j = nI k) ∧ σ 6 j ≠ σ 2 j ∧ σ 5 j = 0)) ∧ (σ 4 j = 0 ∨ σ 4 j = 1 ∨ σ 4 j = 2 ∨ σ 4 j = 3) ∧ (∃ a b, a < 3 ∧ b < 4 ∧ σ 0 j = nI a ∧ σ 1 j = nI b ∧ φ 2 j = nI (a + 4 * b)) ∧ φ 4 j = σ 7 j
/-- the law's book of what was told -/
def pvN (n : Nat) (σ φ : pgSt) : Prop := φ 0 0 = nI n ∧ φ 0 1 = σ 13 3 ∧ φ 0 2 = σ 13 4 ∧ φ 0 3 = σ 13 1 ∧ φ 0 4 = σ 13 2
def pvK (σ φ : pgSt) (c : Nat) : Prop := (∃ k, k < 8 ∧ σ 10 c = nI k) ∧ φ 3 c = σ 12 c ∧ (∃ k, k ≤ 60 ∧ σ 12 c = nI k)
def pvC (n : Nat) (σ : pgSt) (Bd : Nat) : Prop := ∃ C, C ≤ Bd ∧ σ 13 4 = nI C ∧ ∀ j, j < n → σ 9 j = -1 ∨ ∃ k, k < C ∧ σ 9 j = nI k
/-- what holds between the law's steps -/
def pvI (n : Nat) (σ φ : pgSt) (m : Int64) (Bd : Nat) : Prop :=
  pgI n σ ∧ pvN n σ φ ∧ (∀ j, j < n → pvD σ φ j) ∧ (∀ j, n ≤ j → j < 60 → φ 4 j = -1) ∧ (∀ c, c < 10 → pvK σ φ c) ∧ pvC n σ Bd ∧ (∀ j, j < 64 → (pvB m j ↔ σ 5 j ≠ 0))
/-- an exception as a number -/
def pvT (S : pgRes) : Int32 := if S.1 = 0 then S.2.1 else if S.1 = 2 then -9 else if S.1 = 3 then -8 else -10
theorem pvE_congr {σ σ2 : pgSt} {k : Nat} (h2 : σ2 2 k = σ 2 k) (h3 : σ2 3 k = σ 3 k) (h4 : σ2 4 k = σ 4 k) (h6 : σ2 6 k = σ 6 k) (h8 : σ2 8 k = σ 8 k) (h9 : σ2 9 k = σ 9 k) : pvE σ2 k = pvE σ k := by
  simp only [pvE, pgFin, h2, h3, h4, h6, h8, h9]
/-- the codes of the disks below i, kept -/
def pvFill (σ φ : pgSt) (i : Nat) : pgSt := fun t j => if t = 1 ∧ j < i then pvE σ j else φ t j
theorem pvFill_0 {σ φ : pgSt} : φ = pvFill σ φ 0 := by
  funext t j
  simp [pvFill]
theorem pvFill_s {σ φ : pgSt} {i : Nat} : pgU (pvFill σ φ i) 1 i (pvE σ i) = pvFill σ φ (i + 1) := by
  funext t j
  unfold pgU pvFill
  by_cases h1 : t = 1
  · by_cases h2 : j = i
    · subst h1; subst h2
      simp
    · have e : (j < i + 1) = (j < i) := by apply propext; omega
      simp [h1, h2, e]
  · simp [h1]
theorem pvFill_o {σ φ : pgSt} {i t j : Nat} (h : t ≠ 1) : pvFill σ φ i t j = φ t j := by simp [pvFill, h]
theorem pvFill_i {σ φ : pgSt} {i j : Nat} (h : j < i) : pvFill σ φ i 1 j = pvE σ j := by simp [pvFill, h]
section PVA
variable {n j : Nat} {σ : pgSt}
theorem pv_isD (hG : pgI n σ) (hj : j < n) : pgIsD σ (nI j) ∧ ix (nI j) = j := by
  have h1 := hG.1
  refine ⟨⟨nI_pos' (by omega), ?_⟩, nI_clamp (by omega)⟩
  rw [hG.2.1]
  exact nI_lt hj (by omega)
theorem pv_isC {c : Nat} (hc : c < 10) : pgIsC (nI c) ∧ ix (nI c) = c := ⟨⟨nI_pos' (by omega), nI_lt (b := 10) hc (by omega)⟩, nI_clamp (by omega)⟩
theorem pv_isK {k : Nat} (hk : k < 8) : pgIsK (nI k) := ⟨nI_pos' (by omega), nI_lt (b := 8) hk (by omega)⟩
theorem pv_askD (hG : pgI n σ) (hj : j < n) (t : Nat) : sp_askD σ (nI j) t = (0, σ t j, σ) := by
  obtain ⟨h1, h2⟩ := pv_isD hG hj
  unfold sp_askD
  rw [if_neg (fun z => z h1), h2]
theorem pv_askC {c : Nat} (hc : c < 10) (t : Nat) : sp_askC σ (nI c) t = (0, σ t c, σ) := by
  obtain ⟨h1, h2⟩ := pv_isC hc
  unfold sp_askC
  rw [if_neg (fun z => z h1), h2]
theorem pv_done (hG : pgI n σ) (hj : j < n) : ∃ r : Int32, sp_isDone σ (nI j) = (0, r, σ) ∧ (r = 1 ∧ pgFin σ j ∨ r = 0 ∧ ¬ pgFin σ j) := by
  obtain ⟨h1, h2⟩ := pv_isD hG hj
  unfold sp_isDone
  rw [if_neg (fun z => z h1), h2]
  by_cases h : pgFin σ j
  · exact ⟨1, by rw [if_pos h], Or.inl ⟨rfl, h⟩⟩
  · exact ⟨0, by rw [if_neg h], Or.inr ⟨rfl, h⟩⟩
theorem pv_has {k : Nat} (hG : pgI n σ) (hk : k < 8) : sp_has σ (nI k) = (0, nI (pgN (fun j => decide (σ 2 j = nI k)) n), σ) := by
  unfold sp_has
  rw [if_neg (fun z => z (pv_isK hk)), pgI_n hG]
theorem pv_mis (hG : pgI n σ) : pgMis σ = nI (pgN (fun j => decide (σ 5 j ≠ 0)) n) := by
  unfold pgMis
  rw [pgI_n hG]
/-- a place of crates: none, or one of ten -/
theorem pv_cr (hG : pgI n σ) (hj : j < n) : σ 3 j = -1 ∧ σ 3 j < 0 ∧ ¬ 0 ≤ σ 3 j ∨ ∃ c, c < 10 ∧ σ 3 j = nI c ∧ ix (σ 3 j) = c ∧ ¬ σ 3 j < 0 ∧ 0 ≤ σ 3 j ∧ σ 3 j ≠ -1 := by
  rcases hG.2.2.1 j hj with h | ⟨c, hc, h⟩
  · left; rw [h]; decide
  · right; exact ⟨c, hc, h, by rw [h]; exact nI_clamp (by omega), by rw [h]; exact nI_pos (by omega), by rw [h]; exact nI_pos' (by omega), by rw [h]; exact pv_nm1 (by omega)⟩
/-- a seal: none, or a number -/
theorem pv_se {c : Nat} (hG : pgI n σ) (hc : c < 10) : σ 11 c = -1 ∧ σ 11 c < 0 ∧ ¬ 0 ≤ σ 11 c ∨ σ 11 c ≠ -1 ∧ ¬ σ 11 c < 0 ∧ 0 ≤ σ 11 c := by
  obtain ⟨K, k1, k2, k3⟩ := hG.2.2.2.1
  rcases k3 c hc with h | ⟨k, hk, h⟩
  · left; rw [h]; decide
  · right; rw [h]; exact ⟨pv_nm1 (by omega), nI_pos (by omega), nI_pos' (by omega)⟩
end PVA
section PVX
variable {p : Program} {l : Launch} {e : Env} {R : Room} {s : State} {m : MethodId} {args : Array Value} {below : List Frame} {meth : Method} {c : Code} {own : String} {cc : ByteArray} {nL : Nat} {D : va_G} {tys : List (ClassId × FieldType)} {A : Nat → Prop} {Wd : Heap → Prop} {cells slots : Nat} {Q : State → Prop} {pc : Nat} {L L' : List (Nat × Value)} {st stk : List Value}
variable {cD cC cI cZ cL : ClassId} {σ φ : pgSt} {n : Nat} {ad ca : Nat → Nat} {f : Nat → Int64}
theorem pv_in {i : Int32} {j N : Nat} (hi : i = nI j) (hj : j < N) (hN : N ≤ 60) : vp_in i N ∧ i.toNatClampNeg = j := by
  subst hi
  exact ⟨vp_in_nI hj (by omega), nI_clamp (by omega)⟩
theorem pvLen_le (k : Nat) : pvLen k ≤ 60 := by unfold pvLen; split <;> (try split) <;> omega
theorem j_pld (B : pgB p m c s args meth own cc nL D (pgTys cD cC cI cZ cL) A) {k j : Nat} {i v : Int32} (hk : k < 5) (hi : i = nI j) (hj : j < pvLen k) (hv : φ k j = v) (hdg : decode cc pc = .ok (.iaload, 1)) (kk : pgJ p l e R s m args below meth c nL A (pvW D cD cC cI cL A σ n ad (φ) ca (f)) (cells) (slots) (Q) (pc + 1) (L) (.int v :: st)) : pgJ p l e R s m args below meth c nL A (pvW D cD cC cI cL A σ n ad (φ) ca (f)) (cells) (slots) (Q) (pc) (L) (.int i :: .ref (ca k) :: st) := by
  obtain ⟨h1, h2⟩ := pv_in hi hj (pvLen_le k)
  refine j_iald B (fun H h => h.2.1 k hk) 2 rfl h1 hdg ?_
  rw [h2, hv]
  exact kk
theorem j_pst (B : pgB p m c s args meth own cc nL D (pgTys cD cC cI cZ cL) A) {k j : Nat} {i x : Int32} (hk : k < 5) (hi : i = nI j) (hj : j < pvLen k) (hdg : decode cc pc = .ok (.iastore, 1)) (kk : pgJ p l e R s m args below meth c nL A (pvW D cD cC cI cL A σ n ad (pgU φ k j x) ca (f)) (cells) (slots) (Q) (pc + 1) (L) (st)) : pgJ p l e R s m args below meth c nL A (pvW D cD cC cI cL A σ n ad (φ) ca (f)) (cells) (slots) (Q) (pc) (L) (.int x :: .int i :: .ref (ca k) :: st) := by
  obtain ⟨h1, h2⟩ := pv_in hi hj (pvLen_le k)
  refine j_fact (fun H h => h.inA) (fun hin => ?_)
  exact j_iast B (Wd' := pvW D cD cC cI cL A σ n ad (pgU φ k j x) ca (f)) (fun H h => h.2.1 k hk) 2 rfl h1 hdg (hin k (by omega)) (fun H H1 h hc hz ho => h.put hk (by rw [h2] at hc; exact hc) ho) kk
theorem j_plL (B : pgB p m c s args meth own cc nL D (pgTys cD cC cI cZ cL) A) (hdg : decode cc pc = .ok (.laload, 1)) (kk : pgJ p l e R s m args below meth c nL A (pvW D cD cC cI cL A σ n ad (φ) ca (f)) (cells) (slots) (Q) (pc + 1) (L) (.long (f 0) :: st)) : pgJ p l e R s m args below meth c nL A (pvW D cD cC cI cL A σ n ad (φ) ca (f)) (cells) (slots) (Q) (pc) (L) (.int 0 :: .ref (ca 5) :: st) := j_lald B (fun H h => h.a5) 3 rfl pg_in01 hdg kk
theorem j_psL (B : pgB p m c s args meth own cc nL D (pgTys cD cC cI cZ cL) A) {x : Int64} (hdg : decode cc pc = .ok (.lastore, 1)) (kk : pgJ p l e R s m args below meth c nL A (pvW D cD cC cI cL A σ n ad (φ) ca (vp_updL f 0 x)) (cells) (slots) (Q) (pc + 1) (L) (st)) : pgJ p l e R s m args below meth c nL A (pvW D cD cC cI cL A σ n ad (φ) ca (f)) (cells) (slots) (Q) (pc) (L) (.long x :: .int 0 :: .ref (ca 5) :: st) := by
  refine j_fact (fun H h => h.inA) (fun hin => ?_)
  exact j_last B (Wd' := pvW D cD cC cI cL A σ n ad (φ) ca (vp_updL f 0 x)) (fun H h => h.a5) 3 rfl pg_in01 hdg (hin 5 (by omega)) (fun H H1 h hc hz ho => h.putL (by rw [pg_c0] at hc; exact hc) ho) kk
end PVX
end
section
/-- isMissing -/
abbrev rm_isMissing : Room := { frames := 0, cells := 0, slots := 0, locals := 0 }
set_option maxHeartbeats 4000000 in
set_option maxRecDepth 100000 in
theorem c_L_isMissing (l : Launch) (hl : l.stackTraces = false) (D : va_G) (cD cC cI cZ cL : ClassId) (A : Nat → Prop) (σ φ : pgSt) (n : Nat) (ad ca : Nat → Nat) (f : Nat → Int64) (j : Nat) (hj : j < 64) : Met l yL_isMissing (.code yL_isMissing cL_isMissing 2 (some .boolean) :: pgWd) rm_isMissing (pgPc D (pgTys cD cC cI cZ cL) A (pvW D cD cC cI cL A σ n ad φ ca f) [.ref (ca 5), .int (nI j)]) (va_Qi (fun (r : Int32) (u : Unit) => r = 1 ∧ pvB (f 0) j ∨ r = 0 ∧ ¬ pvB (f 0) j) (fun u t9 => (pvW D cD cC cI cL A σ n ad φ ca f) t9.heap) A) rm_isMissing.cells rm_isMissing.slots A := by
  refine pv_enter (own := RL) (by decide) rfl (Nat.le_of_ble_eq_true rfl) (fun p e s m args below meth cc9 Q B hret => ?_)
  refine j_aload_n B dL_isMissing_0 0 rfl rfl ?_
  refine j_iconst B (v := 0) dL_isMissing_1 (by decide) ?_
  refine j_plL B dL_isMissing_2 ?_
  refine j_iload_n B dL_isMissing_3 1 rfl rfl ?_
  refine j_lshr B dL_isMissing_4 ?_
  refine j_lconst B (v := 1) dL_isMissing_5 (by decide) ?_
  refine j_land B dL_isMissing_6 ?_
  refine j_lconst B (v := 1) dL_isMissing_7 (by decide) ?_
  refine j_lcmp B dL_isMissing_8 ?_
  refine j_if_ne B 16 dL_isMissing_9 (by decide) (fun h1 => ?_) (fun h1 => ?_)
  · refine j_iconst B (v := 0) dL_isMissing_16 (by decide) ?_
    exact hret 17 _ 0 () (0) (0) dL_isMissing_17 rfl (Nat.le_of_ble_eq_true rfl) (Nat.le_of_ble_eq_true rfl) (Or.inr ⟨rfl, fun z => absurd ((pv_c1 hj).mpr z) (by assumption)⟩)
  · refine j_iconst B (v := 1) dL_isMissing_12 (by decide) ?_
    refine j_goto B 17 dL_isMissing_13 (by decide) ?_
    exact hret 17 _ 1 () (0) (0) dL_isMissing_17 rfl (Nat.le_of_ble_eq_true rfl) (Nat.le_of_ble_eq_true rfl) (Or.inl ⟨rfl, (pv_c1 hj).mp (by assumption)⟩)
/-- isShut -/
abbrev rm_isShut : Room := { frames := 8, cells := 3, slots := 18, locals := 125 }
set_option maxHeartbeats 4000000 in
set_option maxRecDepth 100000 in
theorem c_L_isShut (l : Launch) (hl : l.stackTraces = false) (D : va_G) (cD cC cI cZ cL : ClassId) (A : Nat → Prop) (σ φ : pgSt) (n : Nat) (ad ca : Nat → Nat) (f : Nat → Int64) (hG : pgI n σ) (j : Nat) (hj : j < n) : Met l yL_isShut (.code yL_isShut cL_isShut 2 (some .boolean) :: pgWd) rm_isShut (pgPc D (pgTys cD cC cI cZ cL) A (pvW D cD cC cI cL A σ n ad φ ca f) [.ref (ad 0), .int (nI j)]) (va_Qi (fun (r : Int32) (u : Unit) => r = 1 ∧ pgShut σ j ∨ r = 0 ∧ ¬ pgShut σ j) (fun u t9 => (pvW D cD cC cI cL A σ n ad φ ca f) t9.heap) A) rm_isShut.cells rm_isShut.slots A := by
  refine pv_enter (own := RL) (by decide) rfl (Nat.le_of_ble_eq_true rfl) (fun p e s m args below meth cc9 Q B hret => ?_)
  refine j_aload_n B dL_isShut_0 0 rfl rfl ?_
  refine j_iload_n B dL_isShut_1 1 rfl rfl ?_
  refine j_ask B (σ 3 j) 1 [.int (nI j)] (c_X2_crateOf l hl D cD cC cI cZ cL (pvA A ca) σ n ad hG (nI j)) (pv_askD hG (by omega) 3) q_254 q_255 q_256 q_1 q_257 hdX2_crateOf rfl ⟨Nat.le_of_ble_eq_true rfl, Nat.le_of_ble_eq_true rfl⟩ (Nat.le_of_ble_eq_true rfl) dL_isShut_2 rfl (1) (6) ⟨Nat.le_of_ble_eq_true rfl, Nat.le_of_ble_eq_true rfl⟩ ⟨Nat.le_of_ble_eq_true rfl, Nat.le_of_ble_eq_true rfl⟩ ?_
  refine j_if_lt B 24 dL_isShut_5 (by decide) (fun h1 => ?_) (fun h1 => ?_)
  · have e3 : σ 3 j = -1 := by
      rcases pv_cr hG hj with z | ⟨c9, -, -, -, z, -⟩
      · exact z.1
      · exact absurd h1 z
    refine j_iconst B (v := 0) dL_isShut_24 (by decide) ?_
    exact hret 25 _ 0 () (1) (6) dL_isShut_25 rfl (Nat.le_of_ble_eq_true rfl) (Nat.le_of_ble_eq_true rfl) (by clear B hret; simp only [pgShut]; grind)
  · obtain ⟨c9, hc9, ec9, ex9, -, -, en9⟩ : ∃ c, c < 10 ∧ σ 3 j = nI c ∧ ix (σ 3 j) = c ∧ ¬ σ 3 j < 0 ∧ 0 ≤ σ 3 j ∧ σ 3 j ≠ -1 := by
      rcases pv_cr hG hj with z | z
      · exact absurd z.2.1 h1
      · exact z
    have hse := pv_se hG hc9
    refine j_aload_n B dL_isShut_8 0 rfl rfl ?_
    refine j_aload_n B dL_isShut_9 0 rfl rfl ?_
    refine j_iload_n B dL_isShut_10 1 rfl rfl ?_
    refine j_ask B (σ 3 j) 1 [.int (nI j)] (c_X2_crateOf l hl D cD cC cI cZ cL (pvA A ca) σ n ad hG (nI j)) (pv_askD hG (by omega) 3) q_254 q_255 q_256 q_1 q_257 hdX2_crateOf rfl ⟨Nat.le_of_ble_eq_true rfl, Nat.le_of_ble_eq_true rfl⟩ (Nat.le_of_ble_eq_true rfl) dL_isShut_11 rfl (2) (12) ⟨Nat.le_of_ble_eq_true rfl, Nat.le_of_ble_eq_true rfl⟩ ⟨Nat.le_of_ble_eq_true rfl, Nat.le_of_ble_eq_true rfl⟩ ?_
    refine j_stack (st2 := [.int (nI c9), .ref (ad 0)]) (by rw [← ec9]) ?_
    refine j_ask B (σ 11 c9) 1 [.int (nI c9)] (c_X2_sealOf l hl D cD cC cI cZ cL (pvA A ca) σ n ad hG (nI c9)) (pv_askC hc9 11) q_296 q_297 q_298 q_1 q_299 hdX2_sealOf rfl ⟨Nat.le_of_ble_eq_true rfl, Nat.le_of_ble_eq_true rfl⟩ (Nat.le_of_ble_eq_true rfl) dL_isShut_14 rfl (3) (18) ⟨Nat.le_of_ble_eq_true rfl, Nat.le_of_ble_eq_true rfl⟩ ⟨Nat.le_of_ble_eq_true rfl, Nat.le_of_ble_eq_true rfl⟩ ?_
    refine j_if_lt B 24 dL_isShut_17 (by decide) (fun h2 => ?_) (fun h2 => ?_)
    · refine j_iconst B (v := 0) dL_isShut_24 (by decide) ?_
      exact hret 25 _ 0 () (3) (18) dL_isShut_25 rfl (Nat.le_of_ble_eq_true rfl) (Nat.le_of_ble_eq_true rfl) (by clear B hret; simp only [pgShut]; grind)
    · refine j_iconst B (v := 1) dL_isShut_20 (by decide) ?_
      refine j_goto B 25 dL_isShut_21 (by decide) ?_
      exact hret 25 _ 1 () (3) (18) dL_isShut_25 rfl (Nat.le_of_ble_eq_true rfl) (Nat.le_of_ble_eq_true rfl) (by clear B hret; simp only [pgShut]; grind)
/-- isFree -/
abbrev rm_isFree : Room := { frames := 9, cells := 4, slots := 24, locals := 146 }
set_option maxHeartbeats 4000000 in
set_option maxRecDepth 100000 in
theorem c_L_isFree (l : Launch) (hl : l.stackTraces = false) (D : va_G) (cD cC cI cZ cL : ClassId) (A : Nat → Prop) (σ φ : pgSt) (n : Nat) (ad ca : Nat → Nat) (f : Nat → Int64) (hG : pgI n σ) (j : Nat) (hj : j < n) (hm : pvB (f 0) j ↔ σ 5 j ≠ 0) : Met l yL_isFree (.code yL_isFree cL_isFree 3 (some .boolean) :: pgWd) rm_isFree (pgPc D (pgTys cD cC cI cZ cL) A (pvW D cD cC cI cL A σ n ad φ ca f) [.ref (ad 0), .ref (ca 5), .int (nI j)]) (va_Qi (fun (r : Int32) (u : Unit) => r = 1 ∧ pgReach σ j ∨ r = 0 ∧ ¬ pgReach σ j) (fun u t9 => (pvW D cD cC cI cL A σ n ad φ ca f) t9.heap) A) rm_isFree.cells rm_isFree.slots A := by
  refine pv_enter (own := RL) (by decide) rfl (Nat.le_of_ble_eq_true rfl) (fun p e s m args below meth cc9 Q B hret => ?_)
  have hn60 : n ≤ 60 := hG.1
  refine j_aload_n B dL_isFree_0 1 rfl rfl ?_
  refine j_iload_n B dL_isFree_1 2 rfl rfl ?_
  refine j_lawI B 2 [.ref (ca 5), .int (nI j)] (c_L_isMissing l hl D cD cC cI cZ cL A σ φ n ad ca f j (by omega)) q_290 q_291 q_0 q_292 hdL_isMissing rfl ⟨Nat.le_of_ble_eq_true rfl, Nat.le_of_ble_eq_true rfl⟩ (Nat.le_of_ble_eq_true rfl) dL_isFree_2 rfl (0) (0) ⟨Nat.le_of_ble_eq_true rfl, Nat.le_of_ble_eq_true rfl⟩ ⟨Nat.le_of_ble_eq_true rfl, Nat.le_of_ble_eq_true rfl⟩ (fun r1 _ h2 => ?_)
  rcases h2 with ⟨rfl, h3⟩ | ⟨rfl, h3⟩
  · refine j_if_ne B 29 dL_isFree_5 (by decide) (fun h4 => ?_) (fun h4 => absurd h4 (by decide))
    refine j_iconst B (v := 0) dL_isFree_29 (by decide) ?_
    exact hret 30 _ 0 () (0) (0) dL_isFree_30 rfl (Nat.le_of_ble_eq_true rfl) (Nat.le_of_ble_eq_true rfl) (by clear B hret; simp only [pgReach]; grind)
  · refine j_if_ne B 29 dL_isFree_5 (by decide) (fun h5 => absurd h5 (by decide)) (fun h5 => ?_)
    refine j_aload_n B dL_isFree_8 0 rfl rfl ?_
    refine j_iload_n B dL_isFree_9 2 rfl rfl ?_
    refine j_ask B (σ 6 j) 1 [.int (nI j)] (c_X2_offeredTo l hl D cD cC cI cZ cL (pvA A ca) σ n ad hG (nI j)) (pv_askD hG (by omega) 6) q_268 q_269 q_270 q_1 q_271 hdX2_offeredTo rfl ⟨Nat.le_of_ble_eq_true rfl, Nat.le_of_ble_eq_true rfl⟩ (Nat.le_of_ble_eq_true rfl) dL_isFree_10 rfl (1) (6) ⟨Nat.le_of_ble_eq_true rfl, Nat.le_of_ble_eq_true rfl⟩ ⟨Nat.le_of_ble_eq_true rfl, Nat.le_of_ble_eq_true rfl⟩ ?_
    refine j_iconst B (v := (-1)) dL_isFree_13 (by decide) ?_
    refine j_icmp_ne B 29 dL_isFree_14 (by decide) (fun h6 => ?_) (fun h6 => ?_)
    · refine j_iconst B (v := 0) dL_isFree_29 (by decide) ?_
      exact hret 30 _ 0 () (1) (6) dL_isFree_30 rfl (Nat.le_of_ble_eq_true rfl) (Nat.le_of_ble_eq_true rfl) (by clear B hret; simp only [pgReach]; grind)
    · refine j_aload_n B dL_isFree_17 0 rfl rfl ?_
      refine j_iload_n B dL_isFree_18 2 rfl rfl ?_
      refine j_lawI B 2 [.ref (ad 0), .int (nI j)] (c_L_isShut l hl D cD cC cI cZ cL A σ φ n ad ca f hG j (by omega)) q_293 q_294 q_0 q_295 hdL_isShut rfl ⟨Nat.le_of_ble_eq_true rfl, Nat.le_of_ble_eq_true rfl⟩ (Nat.le_of_ble_eq_true rfl) dL_isFree_19 rfl (4) (24) ⟨Nat.le_of_ble_eq_true rfl, Nat.le_of_ble_eq_true rfl⟩ ⟨Nat.le_of_ble_eq_true rfl, Nat.le_of_ble_eq_true rfl⟩ (fun r7 _ h8 => ?_)
      rcases h8 with ⟨rfl, h9⟩ | ⟨rfl, h9⟩
      · refine j_if_ne B 29 dL_isFree_22 (by decide) (fun h10 => ?_) (fun h10 => absurd h10 (by decide))
        refine j_iconst B (v := 0) dL_isFree_29 (by decide) ?_
        exact hret 30 _ 0 () (4) (24) dL_isFree_30 rfl (Nat.le_of_ble_eq_true rfl) (Nat.le_of_ble_eq_true rfl) (by clear B hret; simp only [pgReach]; grind)
      · refine j_if_ne B 29 dL_isFree_22 (by decide) (fun h11 => absurd h11 (by decide)) (fun h11 => ?_)
        refine j_iconst B (v := 1) dL_isFree_25 (by decide) ?_
        refine j_goto B 30 dL_isFree_26 (by decide) ?_
        exact hret 30 _ 1 () (4) (24) dL_isFree_30 rfl (Nat.le_of_ble_eq_true rfl) (Nat.le_of_ble_eq_true rfl) (by clear B hret; simp only [pgReach]; grind)
/-- disk -/
abbrev rm_disk : Room := { frames := 8, cells := 6, slots := 36, locals := 125 }
set_option maxHeartbeats 4000000 in
set_option maxRecDepth 100000 in
theorem c_L_disk (l : Launch) (hl : l.stackTraces = false) (D : va_G) (cD cC cI cZ cL : ClassId) (A : Nat → Prop) (σ φ : pgSt) (n : Nat) (ad ca : Nat → Nat) (f : Nat → Int64) (hG : pgI n σ) (j : Nat) (hj : j < n) : Met l yL_disk (.code yL_disk cL_disk 2 (some .int) :: pgWd) rm_disk (pgPc D (pgTys cD cC cI cZ cL) A (pvW D cD cC cI cL A σ n ad φ ca f) [.ref (ad 0), .int (nI j)]) (va_Qi (fun (r : Int32) (u : Unit) => r = pvE σ j) (fun u t9 => (pvW D cD cC cI cL A σ n ad φ ca f) t9.heap) A) rm_disk.cells rm_disk.slots A := by
  refine pv_enter (own := RL) (by decide) rfl (Nat.le_of_ble_eq_true rfl) (fun p e s m args below meth cc9 Q B hret => ?_)
  refine j_aload_n B dL_disk_0 0 rfl rfl ?_
  refine j_iload_n B dL_disk_1 1 rfl rfl ?_
  refine j_ask B (σ 2 j) 1 [.int (nI j)] (c_X2_keeperOf l hl D cD cC cI cZ cL (pvA A ca) σ n ad hG (nI j)) (pv_askD hG (by omega) 2) q_241 q_242 q_243 q_1 q_244 hdX2_keeperOf rfl ⟨Nat.le_of_ble_eq_true rfl, Nat.le_of_ble_eq_true rfl⟩ (Nat.le_of_ble_eq_true rfl) dL_disk_2 rfl (1) (6) ⟨Nat.le_of_ble_eq_true rfl, Nat.le_of_ble_eq_true rfl⟩ ⟨Nat.le_of_ble_eq_true rfl, Nat.le_of_ble_eq_true rfl⟩ ?_
  refine j_bipush B (v := 8) dL_disk_5 (by decide) ?_
  refine j_aload_n B dL_disk_7 0 rfl rfl ?_
  refine j_iload_n B dL_disk_8 1 rfl rfl ?_
  refine j_ask B (σ 3 j) 1 [.int (nI j)] (c_X2_crateOf l hl D cD cC cI cZ cL (pvA A ca) σ n ad hG (nI j)) (pv_askD hG (by omega) 3) q_254 q_255 q_256 q_1 q_257 hdX2_crateOf rfl ⟨Nat.le_of_ble_eq_true rfl, Nat.le_of_ble_eq_true rfl⟩ (Nat.le_of_ble_eq_true rfl) dL_disk_9 rfl (2) (12) ⟨Nat.le_of_ble_eq_true rfl, Nat.le_of_ble_eq_true rfl⟩ ⟨Nat.le_of_ble_eq_true rfl, Nat.le_of_ble_eq_true rfl⟩ ?_
  refine j_iconst B (v := 1) dL_disk_12 (by decide) ?_
  refine j_addv B ((σ 3 j) + 1) (rfl) dL_disk_13 ?_
  refine j_mulv B (8 * ((σ 3 j) + 1)) (rfl) dL_disk_14 ?_
  refine j_addv B ((σ 2 j) + (8 * ((σ 3 j) + 1))) (rfl) dL_disk_15 ?_
  refine j_bipush B (v := 88) dL_disk_16 (by decide) ?_
  refine j_aload_n B dL_disk_18 0 rfl rfl ?_
  refine j_iload_n B dL_disk_19 1 rfl rfl ?_
  refine j_ask B (σ 4 j) 1 [.int (nI j)] (c_X2_stateOf l hl D cD cC cI cZ cL (pvA A ca) σ n ad hG (nI j)) (pv_askD hG (by omega) 4) q_250 q_251 q_252 q_1 q_253 hdX2_stateOf rfl ⟨Nat.le_of_ble_eq_true rfl, Nat.le_of_ble_eq_true rfl⟩ (Nat.le_of_ble_eq_true rfl) dL_disk_20 rfl (3) (18) ⟨Nat.le_of_ble_eq_true rfl, Nat.le_of_ble_eq_true rfl⟩ ⟨Nat.le_of_ble_eq_true rfl, Nat.le_of_ble_eq_true rfl⟩ ?_
  refine j_mulv B (88 * (σ 4 j)) (rfl) dL_disk_23 ?_
  refine j_addv B (((σ 2 j) + (8 * ((σ 3 j) + 1))) + (88 * (σ 4 j))) (rfl) dL_disk_24 ?_
  refine j_sipush B (v := 352) dL_disk_25 (by decide) ?_
  refine j_aload_n B dL_disk_28 0 rfl rfl ?_
  refine j_iload_n B dL_disk_29 1 rfl rfl ?_
  refine j_ask B (σ 6 j) 1 [.int (nI j)] (c_X2_offeredTo l hl D cD cC cI cZ cL (pvA A ca) σ n ad hG (nI j)) (pv_askD hG (by omega) 6) q_268 q_269 q_270 q_1 q_271 hdX2_offeredTo rfl ⟨Nat.le_of_ble_eq_true rfl, Nat.le_of_ble_eq_true rfl⟩ (Nat.le_of_ble_eq_true rfl) dL_disk_30 rfl (4) (24) ⟨Nat.le_of_ble_eq_true rfl, Nat.le_of_ble_eq_true rfl⟩ ⟨Nat.le_of_ble_eq_true rfl, Nat.le_of_ble_eq_true rfl⟩ ?_
  refine j_iconst B (v := 1) dL_disk_33 (by decide) ?_
  refine j_addv B ((σ 6 j) + 1) (rfl) dL_disk_34 ?_
  refine j_mulv B (352 * ((σ 6 j) + 1)) (rfl) dL_disk_35 ?_
  refine j_addv B ((((σ 2 j) + (8 * ((σ 3 j) + 1))) + (88 * (σ 4 j))) + (352 * ((σ 6 j) + 1))) (rfl) dL_disk_36 ?_
  refine j_sipush B (v := 3168) dL_disk_37 (by decide) ?_
  refine j_aload_n B dL_disk_40 0 rfl rfl ?_
  refine j_iload_n B dL_disk_41 1 rfl rfl ?_
  obtain ⟨r1, e2, h3⟩ := pv_done hG (by omega)
  refine j_ask B r1 1 [.int (nI j)] (c_X2_isDone l hl D cD cC cI cZ cL (pvA A ca) σ n ad hG (nI j)) e2 q_272 q_273 q_274 q_1 q_275 hdX2_isDone rfl ⟨Nat.le_of_ble_eq_true rfl, Nat.le_of_ble_eq_true rfl⟩ (Nat.le_of_ble_eq_true rfl) dL_disk_42 rfl (5) (30) ⟨Nat.le_of_ble_eq_true rfl, Nat.le_of_ble_eq_true rfl⟩ ⟨Nat.le_of_ble_eq_true rfl, Nat.le_of_ble_eq_true rfl⟩ ?_
  rcases h3 with ⟨rfl, h4⟩ | ⟨rfl, h4⟩
  · refine j_if_eq B 52 dL_disk_45 (by decide) (fun h5 => absurd h5 (by decide)) (fun h5 => ?_)
    refine j_iconst B (v := 1) dL_disk_48 (by decide) ?_
    refine j_goto B 53 dL_disk_49 (by decide) ?_
    refine j_mulv B (3168 * 1) (rfl) dL_disk_53 ?_
    refine j_addv B (((((σ 2 j) + (8 * ((σ 3 j) + 1))) + (88 * (σ 4 j))) + (352 * ((σ 6 j) + 1))) + (3168 * 1)) (rfl) dL_disk_54 ?_
    refine j_sipush B (v := 6336) dL_disk_55 (by decide) ?_
    refine j_aload_n B dL_disk_58 0 rfl rfl ?_
    refine j_iload_n B dL_disk_59 1 rfl rfl ?_
    refine j_ask B (σ 9 j) 1 [.int (nI j)] (c_X2_certificateOf l hl D cD cC cI cZ cL (pvA A ca) σ n ad hG (nI j)) (pv_askD hG (by omega) 9) q_280 q_281 q_282 q_1 q_283 hdX2_certificateOf rfl ⟨Nat.le_of_ble_eq_true rfl, Nat.le_of_ble_eq_true rfl⟩ (Nat.le_of_ble_eq_true rfl) dL_disk_60 rfl (6) (36) ⟨Nat.le_of_ble_eq_true rfl, Nat.le_of_ble_eq_true rfl⟩ ⟨Nat.le_of_ble_eq_true rfl, Nat.le_of_ble_eq_true rfl⟩ ?_
    refine j_iconst B (v := 1) dL_disk_63 (by decide) ?_
    refine j_addv B ((σ 9 j) + 1) (rfl) dL_disk_64 ?_
    refine j_mulv B (6336 * ((σ 9 j) + 1)) (rfl) dL_disk_65 ?_
    refine j_addv B ((((((σ 2 j) + (8 * ((σ 3 j) + 1))) + (88 * (σ 4 j))) + (352 * ((σ 6 j) + 1))) + (3168 * 1)) + (6336 * ((σ 9 j) + 1))) (rfl) dL_disk_66 ?_
    exact hret 67 _ ((((((σ 2 j) + (8 * ((σ 3 j) + 1))) + (88 * (σ 4 j))) + (352 * ((σ 6 j) + 1))) + (3168 * 1)) + (6336 * ((σ 9 j) + 1))) () (6) (36) dL_disk_67 rfl (Nat.le_of_ble_eq_true rfl) (Nat.le_of_ble_eq_true rfl) (by unfold pvE; simp [*])
  · refine j_if_eq B 52 dL_disk_45 (by decide) (fun h6 => ?_) (fun h6 => absurd h6 (by decide))
    refine j_iconst B (v := 0) dL_disk_52 (by decide) ?_
    refine j_mulv B (3168 * 0) (rfl) dL_disk_53 ?_
    refine j_addv B (((((σ 2 j) + (8 * ((σ 3 j) + 1))) + (88 * (σ 4 j))) + (352 * ((σ 6 j) + 1))) + (3168 * 0)) (rfl) dL_disk_54 ?_
    refine j_sipush B (v := 6336) dL_disk_55 (by decide) ?_
    refine j_aload_n B dL_disk_58 0 rfl rfl ?_
    refine j_iload_n B dL_disk_59 1 rfl rfl ?_
    refine j_ask B (σ 9 j) 1 [.int (nI j)] (c_X2_certificateOf l hl D cD cC cI cZ cL (pvA A ca) σ n ad hG (nI j)) (pv_askD hG (by omega) 9) q_280 q_281 q_282 q_1 q_283 hdX2_certificateOf rfl ⟨Nat.le_of_ble_eq_true rfl, Nat.le_of_ble_eq_true rfl⟩ (Nat.le_of_ble_eq_true rfl) dL_disk_60 rfl (6) (36) ⟨Nat.le_of_ble_eq_true rfl, Nat.le_of_ble_eq_true rfl⟩ ⟨Nat.le_of_ble_eq_true rfl, Nat.le_of_ble_eq_true rfl⟩ ?_
    refine j_iconst B (v := 1) dL_disk_63 (by decide) ?_
    refine j_addv B ((σ 9 j) + 1) (rfl) dL_disk_64 ?_
    refine j_mulv B (6336 * ((σ 9 j) + 1)) (rfl) dL_disk_65 ?_
    refine j_addv B ((((((σ 2 j) + (8 * ((σ 3 j) + 1))) + (88 * (σ 4 j))) + (352 * ((σ 6 j) + 1))) + (3168 * 0)) + (6336 * ((σ 9 j) + 1))) (rfl) dL_disk_66 ?_
    exact hret 67 _ ((((((σ 2 j) + (8 * ((σ 3 j) + 1))) + (88 * (σ 4 j))) + (352 * ((σ 6 j) + 1))) + (3168 * 0)) + (6336 * ((σ 9 j) + 1))) () (6) (36) dL_disk_67 rfl (Nat.le_of_ble_eq_true rfl) (Nat.le_of_ble_eq_true rfl) (by unfold pvE; simp [*])
end
section
/-- countIn -/
abbrev rm_countIn : Room := { frames := 8, cells := 60, slots := 360, locals := 125 }
set_option maxHeartbeats 4000000 in
set_option maxRecDepth 100000 in
theorem c_L_countIn (l : Launch) (hl : l.stackTraces = false) (D : va_G) (cD cC cI cZ cL : ClassId) (A : Nat → Prop) (σ φ : pgSt) (n : Nat) (ad ca : Nat → Nat) (f : Nat → Int64) (hG : pgI n σ) (hc0 : φ 0 0 = nI n) (cr : Int32) : Met l yL_countIn (.code yL_countIn cL_countIn 5 (some .int) :: pgWd) rm_countIn (pgPc D (pgTys cD cC cI cZ cL) A (pvW D cD cC cI cL A σ n ad φ ca f) [.ref (ad 0), .ref (ca 0), .int cr]) (va_Qi (fun (r : Int32) (u : Unit) => r = pgCnt σ n cr) (fun u t9 => (pvW D cD cC cI cL A σ n ad φ ca f) t9.heap) A) rm_countIn.cells rm_countIn.slots A := by
  refine pv_enter (own := RL) (by decide) rfl (Nat.le_of_ble_eq_true rfl) (fun p e s m args below meth cc9 Q B hret => ?_)
  have hn60 : n ≤ 60 := hG.1
  refine j_iconst B (v := 0) dL_countIn_0 (by decide) ?_
  refine j_istore_n B (L' := [(3, .int 0), (0, .ref (ad 0)), (1, .ref (ca 0)), (2, .int cr)]) dL_countIn_1 rfl (by decide) rfl ?_
  refine j_iconst B (v := 0) dL_countIn_2 (by decide) ?_
  refine j_istore B (L' := [(4, .int 0), (3, .int 0), (0, .ref (ad 0)), (1, .ref (ca 0)), (2, .int cr)]) dL_countIn_3 (by decide) rfl ?_
  refine j_loopC (N := n) (X := Int32) (fun i => 0 + 1 * i) (fun i => 0 + 6 * i) (fun i x => x = nI (pgN (fun j => decide (σ 3 j = cr)) i)) (fun i x => pvW D cD cC cI cL A σ n ad φ ca f) (fun i x => [(4, .int (nI i)), (3, .int x), (0, .ref (ad 0)), (1, .ref (ca 0)), (2, .int cr)]) (fun i x hi hv ih => ?_) 0 0 (by omega) (nI_0.symm)
  refine j_iload B dL_countIn_5 0 rfl ?_
  refine j_aload_n B dL_countIn_7 3 rfl rfl ?_
  refine j_iconst B (v := 0) dL_countIn_8 (by decide) ?_
  refine j_pld B (k := 0) (j := 0) (v := nI n) (by omega) rfl (show 0 < 5 by omega) hc0 dL_countIn_9 ?_
  refine j_icmp_ge B 37 dL_countIn_10 (by decide) (fun h1 => ?_) (fun h1 => ?_)
  · have en := pg_eqN hi (by omega) h1
    refine j_iload_n B dL_countIn_37 1 rfl rfl ?_
    exact hret 38 _ x () (0 + 1 * i) (0 + 6 * i) dL_countIn_38 rfl (show _ ≤ 60 by omega) (show _ ≤ 360 by omega) (by rw [hv, en])
  · have hlt : i < n := pg_ltN (by omega) hi h1
    refine j_iload_n B dL_countIn_13 1 rfl rfl ?_
    refine j_aload_n B dL_countIn_14 2 rfl rfl ?_
    refine j_iload B dL_countIn_15 0 rfl ?_
    refine j_ask B (σ 3 i) 1 [.int (nI i)] (c_X2_crateOf l hl D cD cC cI cZ cL (pvA A ca) σ n ad hG (nI i)) (pv_askD hG (by omega) 3) q_254 q_255 q_256 q_1 q_257 hdX2_crateOf rfl ⟨Nat.le_of_ble_eq_true rfl, Nat.le_of_ble_eq_true rfl⟩ (Nat.le_of_ble_eq_true rfl) dL_countIn_17 rfl (0 + 1 * i + 1) (0 + 6 * i + 6) ⟨by show _ + 1 ≤ _; omega, by show _ + 6 ≤ _; omega⟩ ⟨(show _ ≤ 60 by omega), (show _ ≤ 360 by omega)⟩ ?_
    refine j_iload_n B dL_countIn_20 4 rfl rfl ?_
    refine j_icmp_ne B 28 dL_countIn_21 (by decide) (fun h2 => ?_) (fun h2 => ?_)
    · refine j_iconst B (v := 0) dL_countIn_28 (by decide) ?_
      refine j_addv B (nI (pgN (fun j => decide (σ 3 j = cr)) (i + 1))) (by rw [hv]; simp only [pgN]; rw [if_neg (by simpa using h2)]; exact (nI_add _ 0)) dL_countIn_29 ?_
      refine j_istore_n B (L' := [(3, .int (nI (pgN (fun j => decide (σ 3 j = cr)) (i + 1)))), (4, .int (nI i)), (0, .ref (ad 0)), (1, .ref (ca 0)), (2, .int cr)]) dL_countIn_30 rfl (by decide) rfl ?_
      refine j_iinc B (v := nI (i + 1)) (L' := [(4, .int (nI (i + 1))), (3, .int (nI (pgN (fun j => decide (σ 3 j = cr)) (i + 1)))), (0, .ref (ad 0)), (1, .ref (ca 0)), (2, .int cr)]) dL_countIn_31 1 rfl (nI_add _ _) (by decide) rfl ?_
      refine j_goto B 5 dL_countIn_34 (by decide) ?_
      refine j_widen (k := 0 + 1 * (i + 1)) (n := 0 + 6 * (i + 1)) (by omega) (by omega) ?_
      exact ih hlt _ rfl
    · refine j_iconst B (v := 1) dL_countIn_24 (by decide) ?_
      refine j_goto B 29 dL_countIn_25 (by decide) ?_
      refine j_addv B (nI (pgN (fun j => decide (σ 3 j = cr)) (i + 1))) (by rw [hv]; simp only [pgN]; rw [if_pos (by simpa using h2)]; exact nI_1 _) dL_countIn_29 ?_
      refine j_istore_n B (L' := [(3, .int (nI (pgN (fun j => decide (σ 3 j = cr)) (i + 1)))), (4, .int (nI i)), (0, .ref (ad 0)), (1, .ref (ca 0)), (2, .int cr)]) dL_countIn_30 rfl (by decide) rfl ?_
      refine j_iinc B (v := nI (i + 1)) (L' := [(4, .int (nI (i + 1))), (3, .int (nI (pgN (fun j => decide (σ 3 j = cr)) (i + 1)))), (0, .ref (ad 0)), (1, .ref (ca 0)), (2, .int cr)]) dL_countIn_31 1 rfl (nI_add _ _) (by decide) rfl ?_
      refine j_goto B 5 dL_countIn_34 (by decide) ?_
      refine j_widen (k := 0 + 1 * (i + 1)) (n := 0 + 6 * (i + 1)) (by omega) (by omega) ?_
      exact ih hlt _ rfl
/-- areSame, where they are -/
abbrev rm_areSame : Room := { frames := 9, cells := 360, slots := 2160, locals := 146 }
set_option maxHeartbeats 4000000 in
set_option maxRecDepth 100000 in
theorem c_L_areSame (l : Launch) (hl : l.stackTraces = false) (D : va_G) (cD cC cI cZ cL : ClassId) (A : Nat → Prop) (σ φ : pgSt) (n : Nat) (ad ca : Nat → Nat) (f : Nat → Int64) (hG : pgI n σ) (hc0 : φ 0 0 = nI n) (but : Int64) (hs : ∀ j, j < n → pvB but j ∨ pvE σ j = φ 1 j) : Met l yL_areSame (.code yL_areSame cL_areSame 7 (some .boolean) :: pgWd) rm_areSame (pgPc D (pgTys cD cC cI cZ cL) A (pvW D cD cC cI cL A σ n ad φ ca f) [.ref (ad 0), .ref (ca 0), .ref (ca 1), .long but]) (va_Qi (fun (r : Int32) (u : Unit) => r = 1) (fun u t9 => (pvW D cD cC cI cL A σ n ad φ ca f) t9.heap) A) rm_areSame.cells rm_areSame.slots A := by
  refine pv_enter (own := RL) (by decide) rfl (Nat.le_of_ble_eq_true rfl) (fun p e s m args below meth cc9 Q B hret => ?_)
  have hn60 : n ≤ 60 := hG.1
  refine j_iconst B (v := 1) dL_areSame_0 (by decide) ?_
  refine j_istore B (L' := [(5, .int 1), (0, .ref (ad 0)), (1, .ref (ca 0)), (2, .ref (ca 1)), (3, .long but)]) dL_areSame_1 (by decide) rfl ?_
  refine j_iconst B (v := 0) dL_areSame_3 (by decide) ?_
  refine j_istore B (L' := [(6, .int 0), (5, .int 1), (0, .ref (ad 0)), (1, .ref (ca 0)), (2, .ref (ca 1)), (3, .long but)]) dL_areSame_4 (by decide) rfl ?_
  refine j_loopC (N := n) (X := Unit) (fun i => 0 + 6 * i) (fun i => 0 + 36 * i) (fun i x => True) (fun i x => pvW D cD cC cI cL A σ n ad φ ca f) (fun i x => [(6, .int (nI i)), (5, .int 1), (0, .ref (ad 0)), (1, .ref (ca 0)), (2, .ref (ca 1)), (3, .long but)]) (fun i x hi hv ih => ?_) 0 () (by omega) (trivial)
  refine j_iload B dL_areSame_6 0 rfl ?_
  refine j_aload_n B dL_areSame_8 3 rfl rfl ?_
  refine j_iconst B (v := 0) dL_areSame_9 (by decide) ?_
  refine j_pld B (k := 0) (j := 0) (v := nI n) (by omega) rfl (show 0 < 5 by omega) hc0 dL_areSame_10 ?_
  refine j_icmp_ge B 56 dL_areSame_11 (by decide) (fun h1 => ?_) (fun h1 => ?_)
  · have en := pg_eqN hi (by omega) h1
    refine j_iload B dL_areSame_56 1 rfl ?_
    exact hret 58 _ 1 () (0 + 6 * i) (0 + 36 * i) dL_areSame_58 rfl (show _ ≤ 360 by omega) (show _ ≤ 2160 by omega) rfl
  · have hlt : i < n := pg_ltN (by omega) hi h1
    refine j_iload B dL_areSame_14 1 rfl ?_
    refine j_if_eq B 56 dL_areSame_16 (by decide) (fun h2 => absurd h2 (by decide)) (fun h2 => ?_)
    refine j_lload_n B dL_areSame_19 5 rfl rfl ?_
    refine j_iload B dL_areSame_20 0 rfl ?_
    refine j_lshr B dL_areSame_22 ?_
    refine j_lconst B (v := 1) dL_areSame_23 (by decide) ?_
    refine j_land B dL_areSame_24 ?_
    refine j_lconst B (v := 1) dL_areSame_25 (by decide) ?_
    refine j_lcmp B dL_areSame_26 ?_
    refine j_if_eq B 43 dL_areSame_27 (by decide) (fun h3 => ?_) (fun h3 => ?_)
    · refine j_iconst B (v := 1) dL_areSame_43 (by decide) ?_
      refine j_goto B 48 dL_areSame_44 (by decide) ?_
      refine j_istore B (L' := [(5, .int 1), (6, .int (nI i)), (0, .ref (ad 0)), (1, .ref (ca 0)), (2, .ref (ca 1)), (3, .long but)]) dL_areSame_48 (by decide) rfl ?_
      refine j_iinc B (v := nI (i + 1)) (L' := [(6, .int (nI (i + 1))), (5, .int 1), (0, .ref (ad 0)), (1, .ref (ca 0)), (2, .ref (ca 1)), (3, .long but)]) dL_areSame_50 1 rfl (nI_add _ _) (by decide) rfl ?_
      refine j_goto B 6 dL_areSame_53 (by decide) ?_
      refine j_widen (k := 0 + 6 * (i + 1)) (n := 0 + 36 * (i + 1)) (by omega) (by omega) ?_
      exact ih hlt () trivial
    · refine j_aload_n B dL_areSame_30 2 rfl rfl ?_
      refine j_iload B dL_areSame_31 0 rfl ?_
      refine j_lawI B 2 [.ref (ad 0), .int (nI i)] (c_L_disk l hl D cD cC cI cZ cL A σ φ n ad ca f hG i (by omega)) q_265 q_266 q_0 q_267 hdL_disk rfl ⟨Nat.le_of_ble_eq_true rfl, Nat.le_of_ble_eq_true rfl⟩ (Nat.le_of_ble_eq_true rfl) dL_areSame_33 rfl (0 + 6 * i + 6) (0 + 36 * i + 36) ⟨by show _ + 6 ≤ _; omega, by show _ + 36 ≤ _; omega⟩ ⟨(show _ ≤ 360 by omega), (show _ ≤ 2160 by omega)⟩ (fun r4 _ h5 => ?_)
      subst h5
      refine j_aload_n B dL_areSame_36 4 rfl rfl ?_
      refine j_iload B dL_areSame_37 0 rfl ?_
      refine j_pld B (k := 1) (j := i) (v := φ 1 i) (by omega) rfl (show i < 60 by omega) rfl dL_areSame_39 ?_
      refine j_icmp_ne B 47 dL_areSame_40 (by decide) (fun h6 => absurd (((hs i hlt).resolve_left (fun z => absurd ((pv_c1 (by omega)).mpr z) h3))) h6) (fun h6 => ?_)
      refine j_iconst B (v := 1) dL_areSame_43 (by decide) ?_
      refine j_goto B 48 dL_areSame_44 (by decide) ?_
      refine j_istore B (L' := [(5, .int 1), (6, .int (nI i)), (0, .ref (ad 0)), (1, .ref (ca 0)), (2, .ref (ca 1)), (3, .long but)]) dL_areSame_48 (by decide) rfl ?_
      refine j_iinc B (v := nI (i + 1)) (L' := [(6, .int (nI (i + 1))), (5, .int 1), (0, .ref (ad 0)), (1, .ref (ca 0)), (2, .ref (ca 1)), (3, .long but)]) dL_areSame_50 1 rfl (nI_add _ _) (by decide) rfl ?_
      refine j_goto B 6 dL_areSame_53 (by decide) ?_
      refine j_widen (k := 0 + 6 * (i + 1)) (n := 0 + 36 * (i + 1)) (by omega) (by omega) ?_
      exact ih hlt () trivial
/-- all -/
abbrev rm_all : Room := { frames := 9, cells := 360, slots := 2160, locals := 146 }
set_option maxHeartbeats 4000000 in
set_option maxRecDepth 100000 in
theorem c_L_all (l : Launch) (hl : l.stackTraces = false) (D : va_G) (cD cC cI cZ cL : ClassId) (A : Nat → Prop) (σ φ : pgSt) (n : Nat) (ad ca : Nat → Nat) (f : Nat → Int64) (hG : pgI n σ) (hc0 : φ 0 0 = nI n) : Met l yL_all (.code yL_all cL_all 4 none :: pgWd) rm_all (pgPc D (pgTys cD cC cI cZ cL) A (pvW D cD cC cI cL A σ n ad φ ca f) [.ref (ad 0), .ref (ca 0), .ref (ca 1)]) (va_Qv (fun (_ : Unit) => True) (fun _ t9 => (pvW D cD cC cI cL A σ n ad (pvFill σ φ n) ca f) t9.heap) A) rm_all.cells rm_all.slots A := by
  refine pg_enter (own := RL) (by decide) rfl (Nat.le_of_ble_eq_true rfl) (fun p e s m below meth cc9 B hr hnm => ?_)
  have hn60 : n ≤ 60 := hG.1
  refine j_iconst B (v := 0) dL_all_0 (by decide) ?_
  refine j_istore_n B (L' := [(3, .int 0), (0, .ref (ad 0)), (1, .ref (ca 0)), (2, .ref (ca 1))]) dL_all_1 rfl (by decide) rfl ?_
  refine j_world (Wd' := pvW D cD cC cI cL A σ n ad (pvFill σ φ 0) ca f) (fun H h => h.eqF pvFill_0) ?_
  refine j_loopC (N := n) (X := Unit) (fun i => 0 + 6 * i) (fun i => 0 + 36 * i) (fun i x => True) (fun i x => pvW D cD cC cI cL A σ n ad (pvFill σ φ i) ca f) (fun i x => [(3, .int (nI i)), (0, .ref (ad 0)), (1, .ref (ca 0)), (2, .ref (ca 1))]) (fun i x hi hv ih => ?_) 0 () (by omega) (trivial)
  refine j_iload_n B dL_all_2 0 rfl rfl ?_
  refine j_aload_n B dL_all_3 2 rfl rfl ?_
  refine j_iconst B (v := 0) dL_all_4 (by decide) ?_
  refine j_pld B (k := 0) (j := 0) (v := nI n) (by omega) rfl (show 0 < 5 by omega) ((pvFill_o (by omega)).trans hc0) dL_all_5 ?_
  refine j_icmp_ge B 23 dL_all_6 (by decide) (fun h1 => ?_) (fun h1 => ?_)
  · have en := pg_eqN hi (by omega) h1
    exact j_vret B hr dL_all_23 (show _ ≤ 360 by omega) (show _ ≤ 2160 by omega) () trivial (fun H h => en ▸ h)
  · have hlt : i < n := pg_ltN (by omega) hi h1
    refine j_aload_n B dL_all_9 3 rfl rfl ?_
    refine j_iload_n B dL_all_10 0 rfl rfl ?_
    refine j_aload_n B dL_all_11 1 rfl rfl ?_
    refine j_iload_n B dL_all_12 0 rfl rfl ?_
    refine j_lawI B 2 [.ref (ad 0), .int (nI i)] (c_L_disk l hl D cD cC cI cZ cL A σ (pvFill σ φ i) n ad ca f hG i (by omega)) q_265 q_266 q_0 q_267 hdL_disk rfl ⟨Nat.le_of_ble_eq_true rfl, Nat.le_of_ble_eq_true rfl⟩ (Nat.le_of_ble_eq_true rfl) dL_all_13 rfl (0 + 6 * i + 6) (0 + 36 * i + 36) ⟨by show _ + 6 ≤ _; omega, by show _ + 36 ≤ _; omega⟩ ⟨(show _ ≤ 360 by omega), (show _ ≤ 2160 by omega)⟩ (fun r2 _ h3 => ?_)
    subst h3
    refine j_pst B (k := 1) (j := i) (by omega) rfl (show i < 60 by omega) dL_all_16 ?_
    refine j_iinc B (v := nI (i + 1)) (L' := [(3, .int (nI (i + 1))), (0, .ref (ad 0)), (1, .ref (ca 0)), (2, .ref (ca 1))]) dL_all_17 0 rfl (nI_add _ _) (by decide) rfl ?_
    refine j_goto B 2 dL_all_20 (by decide) ?_
    refine j_world (Wd' := pvW D cD cC cI cL A σ n ad (pvFill σ φ (i + 1)) ca f) (fun H h => h.eqF pvFill_s) ?_
    refine j_widen (k := 0 + 6 * (i + 1)) (n := 0 + 36 * (i + 1)) (by omega) (by omega) ?_
    exact ih hlt () trivial
end
section
section PGSC
variable {σ : pgSt}
theorem sc_bring (σ : pgSt) (kind secr keeper : Int32) : ((sp_bring σ kind secr keeper).1 = 0 ∨ (sp_bring σ kind secr keeper).1 = 1 ∨ (sp_bring σ kind secr keeper).1 = 2 ∨ (sp_bring σ kind secr keeper).1 = 3) ∧ ((sp_bring σ kind secr keeper).1 ≠ 0 → (sp_bring σ kind secr keeper).2.2 = σ) := by
  by_cases c1 : pgIsK keeper
  case neg =>
    rw [show sp_bring σ kind secr keeper = (1, 0, σ) from if_pos c1]
    exact ⟨Or.inr (Or.inl rfl), fun _ => rfl⟩
  by_cases c2 : 0 ≤ kind ∧ kind < 3 ∧ 0 ≤ secr ∧ secr < 4
  case neg =>
    rw [show sp_bring σ kind secr keeper = (2, 0, σ) from (if_neg (fun z => z c1)).trans (if_pos c2)]
    exact ⟨Or.inr (Or.inr (Or.inl rfl)), fun _ => rfl⟩
  by_cases hs : σ 13 0 < 60
  case neg =>
    rw [show sp_bring σ kind secr keeper = (3, 0, σ) from (if_neg (fun z => z c1)).trans ((if_neg (fun z => z c2)).trans (if_pos hs))]
    exact ⟨Or.inr (Or.inr (Or.inr rfl)), fun _ => rfl⟩
  rw [show sp_bring σ kind secr keeper = _ from (if_neg (fun z => z c1)).trans ((if_neg (fun z => z c2)).trans (if_neg (fun z => z hs)))]
  exact ⟨Or.inl rfl, fun h => absurd rfl h⟩
theorem sc_offer (σ : pgSt) (d to : Int32) : ((sp_offer σ d to).1 = 0 ∨ (sp_offer σ d to).1 = 1 ∨ (sp_offer σ d to).1 = 2 ∨ (sp_offer σ d to).1 = 3) ∧ ((sp_offer σ d to).1 ≠ 0 → (sp_offer σ d to).2.2 = σ) := by
  unfold sp_offer
  (repeat' split) <;> first | exact ⟨by simp, fun _ => rfl⟩ | exact ⟨by simp, fun h => absurd rfl h⟩
theorem sc_answer (σ : pgSt) (d t : Int32) : ((sp_answer σ d t).1 = 0 ∨ (sp_answer σ d t).1 = 1 ∨ (sp_answer σ d t).1 = 3) ∧ ((sp_answer σ d t).1 ≠ 0 → (sp_answer σ d t).2.2 = σ) := by
  unfold sp_answer
  (repeat' split) <;> first | exact ⟨by simp, fun _ => rfl⟩ | exact ⟨by simp, fun h => absurd rfl h⟩
theorem sc_pack (σ : pgSt) (d c : Int32) : ((sp_pack σ d c).1 = 0 ∨ (sp_pack σ d c).1 = 1 ∨ (sp_pack σ d c).1 = 3) ∧ ((sp_pack σ d c).1 ≠ 0 → (sp_pack σ d c).2.2 = σ) := by
  unfold sp_pack
  (repeat' split) <;> first | exact ⟨by simp, fun _ => rfl⟩ | exact ⟨by simp, fun h => absurd rfl h⟩
theorem sc_unpack (σ : pgSt) (d : Int32) : ((sp_unpack σ d).1 = 0 ∨ (sp_unpack σ d).1 = 1 ∨ (sp_unpack σ d).1 = 3) ∧ ((sp_unpack σ d).1 ≠ 0 → (sp_unpack σ d).2.2 = σ) := by
  unfold sp_unpack
  (repeat' split) <;> first | exact ⟨by simp, fun _ => rfl⟩ | exact ⟨by simp, fun h => absurd rfl h⟩
theorem sc_seal (σ : pgSt) (c : Int32) : ((sp_seal σ c).1 = 0 ∨ (sp_seal σ c).1 = 1 ∨ (sp_seal σ c).1 = 3) ∧ ((sp_seal σ c).1 ≠ 0 → (sp_seal σ c).2.2 = σ) := by
  unfold sp_seal
  (repeat' split) <;> first | exact ⟨by simp, fun _ => rfl⟩ | exact ⟨by simp, fun h => absurd rfl h⟩
theorem sc_open (σ : pgSt) (c k : Int32) : ((sp_open σ c k).1 = 0 ∨ (sp_open σ c k).1 = 1 ∨ (sp_open σ c k).1 = 2 ∨ (sp_open σ c k).1 = 3) ∧ ((sp_open σ c k).1 ≠ 0 → (sp_open σ c k).2.2 = σ) := by
  unfold sp_open
  (repeat' split) <;> first | exact ⟨by simp, fun _ => rfl⟩ | exact ⟨by simp, fun h => absurd rfl h⟩
theorem sc_carry (σ : pgSt) (c to : Int32) : ((sp_carry σ c to).1 = 0 ∨ (sp_carry σ c to).1 = 1 ∨ (sp_carry σ c to).1 = 2 ∨ (sp_carry σ c to).1 = 3) ∧ ((sp_carry σ c to).1 ≠ 0 → (sp_carry σ c to).2.2 = σ) := by
  unfold sp_carry
  (repeat' split) <;> first | exact ⟨by simp, fun _ => rfl⟩ | exact ⟨by simp, fun h => absurd rfl h⟩
theorem sc_wipe (σ : pgSt) (d way w : Int32) : ((sp_wipe σ d way w).1 = 0 ∨ (sp_wipe σ d way w).1 = 1 ∨ (sp_wipe σ d way w).1 = 2 ∨ (sp_wipe σ d way w).1 = 3) ∧ ((sp_wipe σ d way w).1 ≠ 0 → (sp_wipe σ d way w).2.2 = σ) := by
  unfold sp_wipe
  (repeat' split) <;> first | exact ⟨by simp, fun _ => rfl⟩ | exact ⟨by simp, fun h => absurd rfl h⟩
theorem sc_smash (σ : pgSt) (d w : Int32) : ((sp_smash σ d w).1 = 0 ∨ (sp_smash σ d w).1 = 1 ∨ (sp_smash σ d w).1 = 2 ∨ (sp_smash σ d w).1 = 3) ∧ ((sp_smash σ d w).1 ≠ 0 → (sp_smash σ d w).2.2 = σ) := by
  unfold sp_smash
  (repeat' split) <;> first | exact ⟨by simp, fun _ => rfl⟩ | exact ⟨by simp, fun h => absurd rfl h⟩
theorem sc_check (σ : pgSt) (d w g : Int32) : ((sp_check σ d w g).1 = 0 ∨ (sp_check σ d w g).1 = 1 ∨ (sp_check σ d w g).1 = 2 ∨ (sp_check σ d w g).1 = 3) ∧ ((sp_check σ d w g).1 ≠ 0 → (sp_check σ d w g).2.2 = σ) := by
  unfold sp_check
  (repeat' split) <;> first | exact ⟨by simp, fun _ => rfl⟩ | exact ⟨by simp, fun h => absurd rfl h⟩
theorem sc_lose (σ : pgSt) (d : Int32) : ((sp_lose σ d).1 = 0 ∨ (sp_lose σ d).1 = 1 ∨ (sp_lose σ d).1 = 3) ∧ ((sp_lose σ d).1 ≠ 0 → (sp_lose σ d).2.2 = σ) := by
  unfold sp_lose
  (repeat' split) <;> first | exact ⟨by simp, fun _ => rfl⟩ | exact ⟨by simp, fun h => absurd rfl h⟩
theorem sc_find (σ : pgSt) (d : Int32) : ((sp_find σ d).1 = 0 ∨ (sp_find σ d).1 = 1 ∨ (sp_find σ d).1 = 3) ∧ ((sp_find σ d).1 ≠ 0 → (sp_find σ d).2.2 = σ) := by
  unfold sp_find
  (repeat' split) <;> first | exact ⟨by simp, fun _ => rfl⟩ | exact ⟨by simp, fun h => absurd rfl h⟩
theorem sc_certify (σ : pgSt) (k : Int32) : ((sp_certify σ k).1 = 0 ∨ (sp_certify σ k).1 = 1 ∨ (sp_certify σ k).1 = 4) ∧ ((sp_certify σ k).1 ≠ 0 → (sp_certify σ k).2.2 = σ) := by
  unfold sp_certify
  (repeat' split) <;> first | exact ⟨by simp, fun _ => rfl⟩ | exact ⟨by simp, fun h => absurd rfl h⟩
theorem sc_askD (σ : pgSt) (d : Int32) (t : Nat) : ((sp_askD σ d t).1 = 0 ∨ (sp_askD σ d t).1 = 1) ∧ ((sp_askD σ d t).1 ≠ 0 → (sp_askD σ d t).2.2 = σ) := by
  unfold sp_askD
  (repeat' split) <;> first | exact ⟨by simp, fun _ => rfl⟩ | exact ⟨by simp, fun h => absurd rfl h⟩
theorem sc_askC (σ : pgSt) (c : Int32) (t : Nat) : ((sp_askC σ c t).1 = 0 ∨ (sp_askC σ c t).1 = 1) ∧ ((sp_askC σ c t).1 ≠ 0 → (sp_askC σ c t).2.2 = σ) := by
  unfold sp_askC
  (repeat' split) <;> first | exact ⟨by simp, fun _ => rfl⟩ | exact ⟨by simp, fun h => absurd rfl h⟩
theorem sc_isDone (σ : pgSt) (d : Int32) : ((sp_isDone σ d).1 = 0 ∨ (sp_isDone σ d).1 = 1) ∧ ((sp_isDone σ d).1 ≠ 0 → (sp_isDone σ d).2.2 = σ) := by
  unfold sp_isDone
  (repeat' split) <;> first | exact ⟨by simp, fun _ => rfl⟩ | exact ⟨by simp, fun h => absurd rfl h⟩
theorem sc_has (σ : pgSt) (k : Int32) : ((sp_has σ k).1 = 0 ∨ (sp_has σ k).1 = 1) ∧ ((sp_has σ k).1 ≠ 0 → (sp_has σ k).2.2 = σ) := by
  unfold sp_has
  (repeat' split) <;> first | exact ⟨by simp, fun _ => rfl⟩ | exact ⟨by simp, fun h => absurd rfl h⟩
theorem sz_isDone {σ : pgSt} {d : Int32} : (sp_isDone σ d).2.1 = 0 ∨ (sp_isDone σ d).2.1 = 1 := by
  unfold sp_isDone
  (repeat' split) <;> simp
theorem ss_askD {σ : pgSt} {d : Int32} {t : Nat} : (sp_askD σ d t).2.2 = σ := by
  unfold sp_askD
  split <;> rfl
theorem ss_askC {σ : pgSt} {c : Int32} {t : Nat} : (sp_askC σ c t).2.2 = σ := by
  unfold sp_askC
  split <;> rfl
theorem ss_isDone {σ : pgSt} {d : Int32} : (sp_isDone σ d).2.2 = σ := by
  unfold sp_isDone
  split <;> rfl
theorem ss_has {σ : pgSt} {k : Int32} : (sp_has σ k).2.2 = σ := by
  unfold sp_has
  split <;> rfl
end PGSC
abbrev rm_asks_0 : Room := { frames := 8, cells := 3, slots := 18, locals := 127 }
set_option maxHeartbeats 4000000 in
set_option maxRecDepth 100000 in
/-- asks: offer -/
theorem c_L_asks_0 (l : Launch) (hl : l.stackTraces = false) (D : va_G) (cD cC cI cZ cL : ClassId) (A : Nat → Prop) (σ φ : pgSt) (n : Nat) (ad ca : Nat → Nat) (f : Nat → Int64) (hG : pgI n σ) (a b e : Int32) (h1 : (sp_offer σ a b).1 ≠ 1) : Met l yL_asks (.codeWith yL_asks cL_asks 6 (some .int) [(0, 194, 195, 56), (0, 194, 200, 58), (0, 194, 205, 60)] :: pgWd) rm_asks_0 (pgPc D (pgTys cD cC cI cZ cL) A (pvW D cD cC cI cL A σ n ad φ ca f) [.ref (ad 0), .int 0, .int a, .int b, .int e]) (va_Qi (fun (r : Int32) (_ : Unit) => r = pvT (sp_offer σ a b)) (fun _ t9 => (pvW D cD cC cI cL A (sp_offer σ a b).2.2 n ad φ ca f) t9.heap) A) rm_asks_0.cells rm_asks_0.slots A := by
  refine pv_enterW (own := RL) (by decide) rfl (Nat.le_of_ble_eq_true rfl) (fun p e9 s m args below meth cc9 Q B ht hret => ?_)
  refine j_iload_n B dL_asks_0 1 rfl rfl ?_
  refine j_if_ne B 13 dL_asks_1 (by decide) (fun h1 => absurd h1 (by decide)) (fun h1 => ?_)
  refine j_aload_n B dL_asks_4 0 rfl rfl ?_
  refine j_iload_n B dL_asks_5 2 rfl rfl ?_
  refine j_iload_n B dL_asks_6 3 rfl rfl ?_
  have hsc := sc_offer σ a b
  refine j_wVi B 2 [.int a, .int b] (Wd' := fun _ => pvW D cD cC cI cL A (sp_offer σ a b).2.2 n ad φ ca f) (WdX' := pvW D cD cC cI cL A σ n ad φ ca f) (c_X2_offer l hl D cD cC cI cZ cL (pvA A ca) σ n ad hG a b) rfl (fun H h => h.x) q_311 q_312 q_313 q_1 q_314 hdX2_offer rfl ⟨Nat.le_of_ble_eq_true rfl, Nat.le_of_ble_eq_true rfl⟩ (Nat.le_of_ble_eq_true rfl) dL_asks_7 rfl ⟨Nat.le_of_ble_eq_true rfl, Nat.le_of_ble_eq_true rfl⟩ (fun _ h => h.1) (fun H h q hq hA => h.new q hq hA) (fun H h => h.1) (fun H H1 u h h2 hz hk => h.cls h2 hk) (fun H H1 h h2 hz hk => h.cls h2 hk) (fun k hk => ?_) (fun r u hp => ?_)
  · obtain ⟨hk1, hk0⟩ := hk
    have hX : (sp_offer σ a b).2.2 = σ := hsc.2 (by rw [hk1]; exact hk0)
    have hcs : k = 2 ∨ k = 3 := by have := hsc.1; omega
    rcases hcs with rfl | rfl
    · refine ⟨200, ⟨[⟨0, 194, 195, 56⟩], ⟨0, 194, 200, 58⟩, [⟨0, 194, 205, 60⟩], pgEA, ht, (List.forall_mem_cons.mpr ⟨Or.inr ⟨by decide, pgES, B.2.2.2.2.1 _ q_308, pgB_nc B (pgEA, pgES) (by decide)⟩, (fun _ h => nomatch h)⟩), by decide, by decide, B.2.2.2.2.1 _ q_309, pgB_nw B (w := .castable pgEA pgEA) (by decide) rfl, rfl⟩, fun q9 => ?_⟩
      refine j_astore B (L' := [(5, .ref q9), (0, .ref (ad 0)), (1, .int 0), (2, .int a), (3, .int b), (4, .int e)]) dL_asks_200 (by decide) rfl ?_
      refine j_bipush B (v := (-9)) dL_asks_202 (by decide) ?_
      refine j_world (Wd' := pvW D cD cC cI cL A (sp_offer σ a b).2.2 n ad φ ca f) (fun H h => by rw [hX]; exact h) ?_
      exact hret 204 _ (-9) () _ _ dL_asks_204 rfl (Nat.le_of_ble_eq_true rfl) (Nat.le_of_ble_eq_true rfl) (by unfold pvT; rw [hk1] <;> rfl)
    · refine ⟨195, ⟨[], ⟨0, 194, 195, 56⟩, [⟨0, 194, 200, 58⟩, ⟨0, 194, 205, 60⟩], pgES, ht, (fun _ h => nomatch h), by decide, by decide, B.2.2.2.2.1 _ q_308, pgB_nw B (w := .castable pgES pgES) (by decide) rfl, rfl⟩, fun q9 => ?_⟩
      refine j_astore B (L' := [(5, .ref q9), (0, .ref (ad 0)), (1, .int 0), (2, .int a), (3, .int b), (4, .int e)]) dL_asks_195 (by decide) rfl ?_
      refine j_bipush B (v := (-8)) dL_asks_197 (by decide) ?_
      refine j_world (Wd' := pvW D cD cC cI cL A (sp_offer σ a b).2.2 n ad φ ca f) (fun H h => by rw [hX]; exact h) ?_
      exact hret 199 _ (-8) () _ _ dL_asks_199 rfl (Nat.le_of_ble_eq_true rfl) (Nat.le_of_ble_eq_true rfl) (by unfold pvT; rw [hk1] <;> rfl)
  · obtain ⟨h0, rfl⟩ := hp
    refine j_goto B 194 dL_asks_10 (by decide) ?_
    exact hret 194 _ _ () _ _ dL_asks_194 rfl (Nat.le_of_ble_eq_true rfl) (Nat.le_of_ble_eq_true rfl) (by unfold pvT; rw [if_pos h0])
abbrev rm_asks_1 : Room := { frames := 8, cells := 2, slots := 12, locals := 128 }
set_option maxHeartbeats 4000000 in
set_option maxRecDepth 100000 in
/-- asks: answer -/
theorem c_L_asks_1 (l : Launch) (hl : l.stackTraces = false) (D : va_G) (cD cC cI cZ cL : ClassId) (A : Nat → Prop) (σ φ : pgSt) (n : Nat) (ad ca : Nat → Nat) (f : Nat → Int64) (hG : pgI n σ) (a b e : Int32) (g : Int32) (hg : 0 < b ∧ g = 1 ∨ ¬ 0 < b ∧ g = 0) (h1 : (sp_answer σ a g).1 ≠ 1) : Met l yL_asks (.codeWith yL_asks cL_asks 6 (some .int) [(0, 194, 195, 56), (0, 194, 200, 58), (0, 194, 205, 60)] :: pgWd) rm_asks_1 (pgPc D (pgTys cD cC cI cZ cL) A (pvW D cD cC cI cL A σ n ad φ ca f) [.ref (ad 0), .int 1, .int a, .int b, .int e]) (va_Qi (fun (r : Int32) (_ : Unit) => r = pvT (sp_answer σ a g)) (fun _ t9 => (pvW D cD cC cI cL A (sp_answer σ a g).2.2 n ad φ ca f) t9.heap) A) rm_asks_1.cells rm_asks_1.slots A := by
  refine pv_enterW (own := RL) (by decide) rfl (Nat.le_of_ble_eq_true rfl) (fun p e9 s m args below meth cc9 Q B ht hret => ?_)
  rcases hg with ⟨hb, rfl⟩ | ⟨hb, rfl⟩
  · refine j_iload_n B dL_asks_0 1 rfl rfl ?_
    refine j_if_ne B 13 dL_asks_1 (by decide) (fun h1 => ?_) (fun h1 => absurd h1 (by decide))
    refine j_iload_n B dL_asks_13 1 rfl rfl ?_
    refine j_iconst B (v := 1) dL_asks_14 (by decide) ?_
    refine j_icmp_ne B 35 dL_asks_15 (by decide) (fun h2 => absurd h2 (by decide)) (fun h2 => ?_)
    refine j_aload_n B dL_asks_18 0 rfl rfl ?_
    refine j_iload_n B dL_asks_19 2 rfl rfl ?_
    refine j_iload_n B dL_asks_20 3 rfl rfl ?_
    refine j_if_le B 28 dL_asks_21 (by decide) (fun h3 => absurd hb (Int32.not_lt.mpr h3)) (fun h3 => ?_)
    refine j_iconst B (v := 1) dL_asks_24 (by decide) ?_
    refine j_goto B 29 dL_asks_25 (by decide) ?_
    have hsc := sc_answer σ a 1
    refine j_wVi B 2 [.int a, .int 1] (Wd' := fun _ => pvW D cD cC cI cL A (sp_answer σ a 1).2.2 n ad φ ca f) (WdX' := pvW D cD cC cI cL A σ n ad φ ca f) (c_X2_answer l hl D cD cC cI cZ cL (pvA A ca) σ n ad hG a 1) rfl (fun H h => h.x) q_320 q_321 q_322 q_1 q_323 hdX2_answer rfl ⟨Nat.le_of_ble_eq_true rfl, Nat.le_of_ble_eq_true rfl⟩ (Nat.le_of_ble_eq_true rfl) dL_asks_29 rfl ⟨Nat.le_of_ble_eq_true rfl, Nat.le_of_ble_eq_true rfl⟩ (fun _ h => h.1) (fun H h q hq hA => h.new q hq hA) (fun H h => h.1) (fun H H1 u h h2 hz hk => h.cls h2 hk) (fun H H1 h h2 hz hk => h.cls h2 hk) (fun k hk => ?_) (fun r u hp => ?_)
    · obtain ⟨hk1, hk0⟩ := hk
      have hX : (sp_answer σ a 1).2.2 = σ := hsc.2 (by rw [hk1]; exact hk0)
      have hcs : k = 3 := by have := hsc.1; omega
      rcases hcs with rfl
      · refine ⟨195, ⟨[], ⟨0, 194, 195, 56⟩, [⟨0, 194, 200, 58⟩, ⟨0, 194, 205, 60⟩], pgES, ht, (fun _ h => nomatch h), by decide, by decide, B.2.2.2.2.1 _ q_308, pgB_nw B (w := .castable pgES pgES) (by decide) rfl, rfl⟩, fun q9 => ?_⟩
        refine j_astore B (L' := [(5, .ref q9), (0, .ref (ad 0)), (1, .int 1), (2, .int a), (3, .int b), (4, .int e)]) dL_asks_195 (by decide) rfl ?_
        refine j_bipush B (v := (-8)) dL_asks_197 (by decide) ?_
        refine j_world (Wd' := pvW D cD cC cI cL A (sp_answer σ a 1).2.2 n ad φ ca f) (fun H h => by rw [hX]; exact h) ?_
        exact hret 199 _ (-8) () _ _ dL_asks_199 rfl (Nat.le_of_ble_eq_true rfl) (Nat.le_of_ble_eq_true rfl) (by unfold pvT; rw [hk1] <;> rfl)
    · obtain ⟨h0, rfl⟩ := hp
      refine j_goto B 194 dL_asks_32 (by decide) ?_
      exact hret 194 _ _ () _ _ dL_asks_194 rfl (Nat.le_of_ble_eq_true rfl) (Nat.le_of_ble_eq_true rfl) (by unfold pvT; rw [if_pos h0])
  · refine j_iload_n B dL_asks_0 1 rfl rfl ?_
    refine j_if_ne B 13 dL_asks_1 (by decide) (fun h4 => ?_) (fun h4 => absurd h4 (by decide))
    refine j_iload_n B dL_asks_13 1 rfl rfl ?_
    refine j_iconst B (v := 1) dL_asks_14 (by decide) ?_
    refine j_icmp_ne B 35 dL_asks_15 (by decide) (fun h5 => absurd h5 (by decide)) (fun h5 => ?_)
    refine j_aload_n B dL_asks_18 0 rfl rfl ?_
    refine j_iload_n B dL_asks_19 2 rfl rfl ?_
    refine j_iload_n B dL_asks_20 3 rfl rfl ?_
    refine j_if_le B 28 dL_asks_21 (by decide) (fun h6 => ?_) (fun h6 => absurd (Int32.not_lt.mp hb) h6)
    refine j_iconst B (v := 0) dL_asks_28 (by decide) ?_
    have hsc := sc_answer σ a 0
    refine j_wVi B 2 [.int a, .int 0] (Wd' := fun _ => pvW D cD cC cI cL A (sp_answer σ a 0).2.2 n ad φ ca f) (WdX' := pvW D cD cC cI cL A σ n ad φ ca f) (c_X2_answer l hl D cD cC cI cZ cL (pvA A ca) σ n ad hG a 0) rfl (fun H h => h.x) q_320 q_321 q_322 q_1 q_323 hdX2_answer rfl ⟨Nat.le_of_ble_eq_true rfl, Nat.le_of_ble_eq_true rfl⟩ (Nat.le_of_ble_eq_true rfl) dL_asks_29 rfl ⟨Nat.le_of_ble_eq_true rfl, Nat.le_of_ble_eq_true rfl⟩ (fun _ h => h.1) (fun H h q hq hA => h.new q hq hA) (fun H h => h.1) (fun H H1 u h h2 hz hk => h.cls h2 hk) (fun H H1 h h2 hz hk => h.cls h2 hk) (fun k hk => ?_) (fun r u hp => ?_)
    · obtain ⟨hk1, hk0⟩ := hk
      have hX : (sp_answer σ a 0).2.2 = σ := hsc.2 (by rw [hk1]; exact hk0)
      have hcs : k = 3 := by have := hsc.1; omega
      rcases hcs with rfl
      · refine ⟨195, ⟨[], ⟨0, 194, 195, 56⟩, [⟨0, 194, 200, 58⟩, ⟨0, 194, 205, 60⟩], pgES, ht, (fun _ h => nomatch h), by decide, by decide, B.2.2.2.2.1 _ q_308, pgB_nw B (w := .castable pgES pgES) (by decide) rfl, rfl⟩, fun q9 => ?_⟩
        refine j_astore B (L' := [(5, .ref q9), (0, .ref (ad 0)), (1, .int 1), (2, .int a), (3, .int b), (4, .int e)]) dL_asks_195 (by decide) rfl ?_
        refine j_bipush B (v := (-8)) dL_asks_197 (by decide) ?_
        refine j_world (Wd' := pvW D cD cC cI cL A (sp_answer σ a 0).2.2 n ad φ ca f) (fun H h => by rw [hX]; exact h) ?_
        exact hret 199 _ (-8) () _ _ dL_asks_199 rfl (Nat.le_of_ble_eq_true rfl) (Nat.le_of_ble_eq_true rfl) (by unfold pvT; rw [hk1] <;> rfl)
    · obtain ⟨h0, rfl⟩ := hp
      refine j_goto B 194 dL_asks_32 (by decide) ?_
      exact hret 194 _ _ () _ _ dL_asks_194 rfl (Nat.le_of_ble_eq_true rfl) (Nat.le_of_ble_eq_true rfl) (by unfold pvT; rw [if_pos h0])
abbrev rm_asks_2 : Room := { frames := 8, cells := 4, slots := 24, locals := 128 }
set_option maxHeartbeats 4000000 in
set_option maxRecDepth 100000 in
/-- asks: pack -/
theorem c_L_asks_2 (l : Launch) (hl : l.stackTraces = false) (D : va_G) (cD cC cI cZ cL : ClassId) (A : Nat → Prop) (σ φ : pgSt) (n : Nat) (ad ca : Nat → Nat) (f : Nat → Int64) (hG : pgI n σ) (a b e : Int32) (h1 : (sp_pack σ a b).1 ≠ 1) : Met l yL_asks (.codeWith yL_asks cL_asks 6 (some .int) [(0, 194, 195, 56), (0, 194, 200, 58), (0, 194, 205, 60)] :: pgWd) rm_asks_2 (pgPc D (pgTys cD cC cI cZ cL) A (pvW D cD cC cI cL A σ n ad φ ca f) [.ref (ad 0), .int 2, .int a, .int b, .int e]) (va_Qi (fun (r : Int32) (_ : Unit) => r = pvT (sp_pack σ a b)) (fun _ t9 => (pvW D cD cC cI cL A (sp_pack σ a b).2.2 n ad φ ca f) t9.heap) A) rm_asks_2.cells rm_asks_2.slots A := by
  refine pv_enterW (own := RL) (by decide) rfl (Nat.le_of_ble_eq_true rfl) (fun p e9 s m args below meth cc9 Q B ht hret => ?_)
  refine j_iload_n B dL_asks_0 1 rfl rfl ?_
  refine j_if_ne B 13 dL_asks_1 (by decide) (fun h1 => ?_) (fun h1 => absurd h1 (by decide))
  refine j_iload_n B dL_asks_13 1 rfl rfl ?_
  refine j_iconst B (v := 1) dL_asks_14 (by decide) ?_
  refine j_icmp_ne B 35 dL_asks_15 (by decide) (fun h2 => ?_) (fun h2 => absurd h2 (by decide))
  refine j_iload_n B dL_asks_35 1 rfl rfl ?_
  refine j_iconst B (v := 2) dL_asks_36 (by decide) ?_
  refine j_icmp_ne B 49 dL_asks_37 (by decide) (fun h3 => absurd h3 (by decide)) (fun h3 => ?_)
  refine j_aload_n B dL_asks_40 0 rfl rfl ?_
  refine j_iload_n B dL_asks_41 2 rfl rfl ?_
  refine j_iload_n B dL_asks_42 3 rfl rfl ?_
  have hsc := sc_pack σ a b
  refine j_wVi B 2 [.int a, .int b] (Wd' := fun _ => pvW D cD cC cI cL A (sp_pack σ a b).2.2 n ad φ ca f) (WdX' := pvW D cD cC cI cL A σ n ad φ ca f) (c_X2_pack l hl D cD cC cI cZ cL (pvA A ca) σ n ad hG a b) rfl (fun H h => h.x) q_325 q_326 q_327 q_1 q_328 hdX2_pack rfl ⟨Nat.le_of_ble_eq_true rfl, Nat.le_of_ble_eq_true rfl⟩ (Nat.le_of_ble_eq_true rfl) dL_asks_43 rfl ⟨Nat.le_of_ble_eq_true rfl, Nat.le_of_ble_eq_true rfl⟩ (fun _ h => h.1) (fun H h q hq hA => h.new q hq hA) (fun H h => h.1) (fun H H1 u h h2 hz hk => h.cls h2 hk) (fun H H1 h h2 hz hk => h.cls h2 hk) (fun k hk => ?_) (fun r u hp => ?_)
  · obtain ⟨hk1, hk0⟩ := hk
    have hX : (sp_pack σ a b).2.2 = σ := hsc.2 (by rw [hk1]; exact hk0)
    have hcs : k = 3 := by have := hsc.1; omega
    rcases hcs with rfl
    · refine ⟨195, ⟨[], ⟨0, 194, 195, 56⟩, [⟨0, 194, 200, 58⟩, ⟨0, 194, 205, 60⟩], pgES, ht, (fun _ h => nomatch h), by decide, by decide, B.2.2.2.2.1 _ q_308, pgB_nw B (w := .castable pgES pgES) (by decide) rfl, rfl⟩, fun q9 => ?_⟩
      refine j_astore B (L' := [(5, .ref q9), (0, .ref (ad 0)), (1, .int 2), (2, .int a), (3, .int b), (4, .int e)]) dL_asks_195 (by decide) rfl ?_
      refine j_bipush B (v := (-8)) dL_asks_197 (by decide) ?_
      refine j_world (Wd' := pvW D cD cC cI cL A (sp_pack σ a b).2.2 n ad φ ca f) (fun H h => by rw [hX]; exact h) ?_
      exact hret 199 _ (-8) () _ _ dL_asks_199 rfl (Nat.le_of_ble_eq_true rfl) (Nat.le_of_ble_eq_true rfl) (by unfold pvT; rw [hk1] <;> rfl)
  · obtain ⟨h0, rfl⟩ := hp
    refine j_goto B 194 dL_asks_46 (by decide) ?_
    exact hret 194 _ _ () _ _ dL_asks_194 rfl (Nat.le_of_ble_eq_true rfl) (Nat.le_of_ble_eq_true rfl) (by unfold pvT; rw [if_pos h0])
abbrev rm_asks_3 : Room := { frames := 8, cells := 2, slots := 12, locals := 127 }
set_option maxHeartbeats 4000000 in
set_option maxRecDepth 100000 in
/-- asks: unpack -/
theorem c_L_asks_3 (l : Launch) (hl : l.stackTraces = false) (D : va_G) (cD cC cI cZ cL : ClassId) (A : Nat → Prop) (σ φ : pgSt) (n : Nat) (ad ca : Nat → Nat) (f : Nat → Int64) (hG : pgI n σ) (a b e : Int32) (h1 : (sp_unpack σ a).1 ≠ 1) : Met l yL_asks (.codeWith yL_asks cL_asks 6 (some .int) [(0, 194, 195, 56), (0, 194, 200, 58), (0, 194, 205, 60)] :: pgWd) rm_asks_3 (pgPc D (pgTys cD cC cI cZ cL) A (pvW D cD cC cI cL A σ n ad φ ca f) [.ref (ad 0), .int 3, .int a, .int b, .int e]) (va_Qi (fun (r : Int32) (_ : Unit) => r = pvT (sp_unpack σ a)) (fun _ t9 => (pvW D cD cC cI cL A (sp_unpack σ a).2.2 n ad φ ca f) t9.heap) A) rm_asks_3.cells rm_asks_3.slots A := by
  refine pv_enterW (own := RL) (by decide) rfl (Nat.le_of_ble_eq_true rfl) (fun p e9 s m args below meth cc9 Q B ht hret => ?_)
  refine j_iload_n B dL_asks_0 1 rfl rfl ?_
  refine j_if_ne B 13 dL_asks_1 (by decide) (fun h1 => ?_) (fun h1 => absurd h1 (by decide))
  refine j_iload_n B dL_asks_13 1 rfl rfl ?_
  refine j_iconst B (v := 1) dL_asks_14 (by decide) ?_
  refine j_icmp_ne B 35 dL_asks_15 (by decide) (fun h2 => ?_) (fun h2 => absurd h2 (by decide))
  refine j_iload_n B dL_asks_35 1 rfl rfl ?_
  refine j_iconst B (v := 2) dL_asks_36 (by decide) ?_
  refine j_icmp_ne B 49 dL_asks_37 (by decide) (fun h3 => ?_) (fun h3 => absurd h3 (by decide))
  refine j_iload_n B dL_asks_49 1 rfl rfl ?_
  refine j_iconst B (v := 3) dL_asks_50 (by decide) ?_
  refine j_icmp_ne B 62 dL_asks_51 (by decide) (fun h4 => absurd h4 (by decide)) (fun h4 => ?_)
  refine j_aload_n B dL_asks_54 0 rfl rfl ?_
  refine j_iload_n B dL_asks_55 2 rfl rfl ?_
  have hsc := sc_unpack σ a
  refine j_wVi B 1 [.int a] (Wd' := fun _ => pvW D cD cC cI cL A (sp_unpack σ a).2.2 n ad φ ca f) (WdX' := pvW D cD cC cI cL A σ n ad φ ca f) (c_X2_unpack l hl D cD cC cI cZ cL (pvA A ca) σ n ad hG a) rfl (fun H h => h.x) q_338 q_339 q_340 q_1 q_341 hdX2_unpack rfl ⟨Nat.le_of_ble_eq_true rfl, Nat.le_of_ble_eq_true rfl⟩ (Nat.le_of_ble_eq_true rfl) dL_asks_56 rfl ⟨Nat.le_of_ble_eq_true rfl, Nat.le_of_ble_eq_true rfl⟩ (fun _ h => h.1) (fun H h q hq hA => h.new q hq hA) (fun H h => h.1) (fun H H1 u h h2 hz hk => h.cls h2 hk) (fun H H1 h h2 hz hk => h.cls h2 hk) (fun k hk => ?_) (fun r u hp => ?_)
  · obtain ⟨hk1, hk0⟩ := hk
    have hX : (sp_unpack σ a).2.2 = σ := hsc.2 (by rw [hk1]; exact hk0)
    have hcs : k = 3 := by have := hsc.1; omega
    rcases hcs with rfl
    · refine ⟨195, ⟨[], ⟨0, 194, 195, 56⟩, [⟨0, 194, 200, 58⟩, ⟨0, 194, 205, 60⟩], pgES, ht, (fun _ h => nomatch h), by decide, by decide, B.2.2.2.2.1 _ q_308, pgB_nw B (w := .castable pgES pgES) (by decide) rfl, rfl⟩, fun q9 => ?_⟩
      refine j_astore B (L' := [(5, .ref q9), (0, .ref (ad 0)), (1, .int 3), (2, .int a), (3, .int b), (4, .int e)]) dL_asks_195 (by decide) rfl ?_
      refine j_bipush B (v := (-8)) dL_asks_197 (by decide) ?_
      refine j_world (Wd' := pvW D cD cC cI cL A (sp_unpack σ a).2.2 n ad φ ca f) (fun H h => by rw [hX]; exact h) ?_
      exact hret 199 _ (-8) () _ _ dL_asks_199 rfl (Nat.le_of_ble_eq_true rfl) (Nat.le_of_ble_eq_true rfl) (by unfold pvT; rw [hk1] <;> rfl)
  · obtain ⟨h0, rfl⟩ := hp
    refine j_goto B 194 dL_asks_59 (by decide) ?_
    exact hret 194 _ _ () _ _ dL_asks_194 rfl (Nat.le_of_ble_eq_true rfl) (Nat.le_of_ble_eq_true rfl) (by unfold pvT; rw [if_pos h0])
abbrev rm_asks_4 : Room := { frames := 8, cells := 5, slots := 30, locals := 129 }
set_option maxHeartbeats 4000000 in
set_option maxRecDepth 100000 in
/-- asks: wipe -/
theorem c_L_asks_4 (l : Launch) (hl : l.stackTraces = false) (D : va_G) (cD cC cI cZ cL : ClassId) (A : Nat → Prop) (σ φ : pgSt) (n : Nat) (ad ca : Nat → Nat) (f : Nat → Int64) (hG : pgI n σ) (a b e : Int32) (h1 : (sp_wipe σ a b e).1 ≠ 1) : Met l yL_asks (.codeWith yL_asks cL_asks 6 (some .int) [(0, 194, 195, 56), (0, 194, 200, 58), (0, 194, 205, 60)] :: pgWd) rm_asks_4 (pgPc D (pgTys cD cC cI cZ cL) A (pvW D cD cC cI cL A σ n ad φ ca f) [.ref (ad 0), .int 4, .int a, .int b, .int e]) (va_Qi (fun (r : Int32) (_ : Unit) => r = pvT (sp_wipe σ a b e)) (fun _ t9 => (pvW D cD cC cI cL A (sp_wipe σ a b e).2.2 n ad φ ca f) t9.heap) A) rm_asks_4.cells rm_asks_4.slots A := by
  refine pv_enterW (own := RL) (by decide) rfl (Nat.le_of_ble_eq_true rfl) (fun p e9 s m args below meth cc9 Q B ht hret => ?_)
  refine j_iload_n B dL_asks_0 1 rfl rfl ?_
  refine j_if_ne B 13 dL_asks_1 (by decide) (fun h1 => ?_) (fun h1 => absurd h1 (by decide))
  refine j_iload_n B dL_asks_13 1 rfl rfl ?_
  refine j_iconst B (v := 1) dL_asks_14 (by decide) ?_
  refine j_icmp_ne B 35 dL_asks_15 (by decide) (fun h2 => ?_) (fun h2 => absurd h2 (by decide))
  refine j_iload_n B dL_asks_35 1 rfl rfl ?_
  refine j_iconst B (v := 2) dL_asks_36 (by decide) ?_
  refine j_icmp_ne B 49 dL_asks_37 (by decide) (fun h3 => ?_) (fun h3 => absurd h3 (by decide))
  refine j_iload_n B dL_asks_49 1 rfl rfl ?_
  refine j_iconst B (v := 3) dL_asks_50 (by decide) ?_
  refine j_icmp_ne B 62 dL_asks_51 (by decide) (fun h4 => ?_) (fun h4 => absurd h4 (by decide))
  refine j_iload_n B dL_asks_62 1 rfl rfl ?_
  refine j_iconst B (v := 4) dL_asks_63 (by decide) ?_
  refine j_icmp_ne B 78 dL_asks_64 (by decide) (fun h5 => absurd h5 (by decide)) (fun h5 => ?_)
  refine j_aload_n B dL_asks_67 0 rfl rfl ?_
  refine j_iload_n B dL_asks_68 2 rfl rfl ?_
  refine j_iload_n B dL_asks_69 3 rfl rfl ?_
  refine j_iload B dL_asks_70 4 rfl ?_
  have hsc := sc_wipe σ a b e
  refine j_wVi B 3 [.int a, .int b, .int e] (Wd' := fun _ => pvW D cD cC cI cL A (sp_wipe σ a b e).2.2 n ad φ ca f) (WdX' := pvW D cD cC cI cL A σ n ad φ ca f) (c_X2_wipe l hl D cD cC cI cZ cL (pvA A ca) σ n ad hG a b e) rfl (fun H h => h.x) q_343 q_344 q_345 q_1 q_346 hdX2_wipe rfl ⟨Nat.le_of_ble_eq_true rfl, Nat.le_of_ble_eq_true rfl⟩ (Nat.le_of_ble_eq_true rfl) dL_asks_72 rfl ⟨Nat.le_of_ble_eq_true rfl, Nat.le_of_ble_eq_true rfl⟩ (fun _ h => h.1) (fun H h q hq hA => h.new q hq hA) (fun H h => h.1) (fun H H1 u h h2 hz hk => h.cls h2 hk) (fun H H1 h h2 hz hk => h.cls h2 hk) (fun k hk => ?_) (fun r u hp => ?_)
  · obtain ⟨hk1, hk0⟩ := hk
    have hX : (sp_wipe σ a b e).2.2 = σ := hsc.2 (by rw [hk1]; exact hk0)
    have hcs : k = 2 ∨ k = 3 := by have := hsc.1; omega
    rcases hcs with rfl | rfl
    · refine ⟨200, ⟨[⟨0, 194, 195, 56⟩], ⟨0, 194, 200, 58⟩, [⟨0, 194, 205, 60⟩], pgEA, ht, (List.forall_mem_cons.mpr ⟨Or.inr ⟨by decide, pgES, B.2.2.2.2.1 _ q_308, pgB_nc B (pgEA, pgES) (by decide)⟩, (fun _ h => nomatch h)⟩), by decide, by decide, B.2.2.2.2.1 _ q_309, pgB_nw B (w := .castable pgEA pgEA) (by decide) rfl, rfl⟩, fun q9 => ?_⟩
      refine j_astore B (L' := [(5, .ref q9), (0, .ref (ad 0)), (1, .int 4), (2, .int a), (3, .int b), (4, .int e)]) dL_asks_200 (by decide) rfl ?_
      refine j_bipush B (v := (-9)) dL_asks_202 (by decide) ?_
      refine j_world (Wd' := pvW D cD cC cI cL A (sp_wipe σ a b e).2.2 n ad φ ca f) (fun H h => by rw [hX]; exact h) ?_
      exact hret 204 _ (-9) () _ _ dL_asks_204 rfl (Nat.le_of_ble_eq_true rfl) (Nat.le_of_ble_eq_true rfl) (by unfold pvT; rw [hk1] <;> rfl)
    · refine ⟨195, ⟨[], ⟨0, 194, 195, 56⟩, [⟨0, 194, 200, 58⟩, ⟨0, 194, 205, 60⟩], pgES, ht, (fun _ h => nomatch h), by decide, by decide, B.2.2.2.2.1 _ q_308, pgB_nw B (w := .castable pgES pgES) (by decide) rfl, rfl⟩, fun q9 => ?_⟩
      refine j_astore B (L' := [(5, .ref q9), (0, .ref (ad 0)), (1, .int 4), (2, .int a), (3, .int b), (4, .int e)]) dL_asks_195 (by decide) rfl ?_
      refine j_bipush B (v := (-8)) dL_asks_197 (by decide) ?_
      refine j_world (Wd' := pvW D cD cC cI cL A (sp_wipe σ a b e).2.2 n ad φ ca f) (fun H h => by rw [hX]; exact h) ?_
      exact hret 199 _ (-8) () _ _ dL_asks_199 rfl (Nat.le_of_ble_eq_true rfl) (Nat.le_of_ble_eq_true rfl) (by unfold pvT; rw [hk1] <;> rfl)
  · obtain ⟨h0, rfl⟩ := hp
    refine j_goto B 194 dL_asks_75 (by decide) ?_
    exact hret 194 _ _ () _ _ dL_asks_194 rfl (Nat.le_of_ble_eq_true rfl) (Nat.le_of_ble_eq_true rfl) (by unfold pvT; rw [if_pos h0])
abbrev rm_asks_5 : Room := { frames := 8, cells := 5, slots := 30, locals := 128 }
set_option maxHeartbeats 4000000 in
set_option maxRecDepth 100000 in
/-- asks: smash -/
theorem c_L_asks_5 (l : Launch) (hl : l.stackTraces = false) (D : va_G) (cD cC cI cZ cL : ClassId) (A : Nat → Prop) (σ φ : pgSt) (n : Nat) (ad ca : Nat → Nat) (f : Nat → Int64) (hG : pgI n σ) (a b e : Int32) (h1 : (sp_smash σ a b).1 ≠ 1) : Met l yL_asks (.codeWith yL_asks cL_asks 6 (some .int) [(0, 194, 195, 56), (0, 194, 200, 58), (0, 194, 205, 60)] :: pgWd) rm_asks_5 (pgPc D (pgTys cD cC cI cZ cL) A (pvW D cD cC cI cL A σ n ad φ ca f) [.ref (ad 0), .int 5, .int a, .int b, .int e]) (va_Qi (fun (r : Int32) (_ : Unit) => r = pvT (sp_smash σ a b)) (fun _ t9 => (pvW D cD cC cI cL A (sp_smash σ a b).2.2 n ad φ ca f) t9.heap) A) rm_asks_5.cells rm_asks_5.slots A := by
  refine pv_enterW (own := RL) (by decide) rfl (Nat.le_of_ble_eq_true rfl) (fun p e9 s m args below meth cc9 Q B ht hret => ?_)
  refine j_iload_n B dL_asks_0 1 rfl rfl ?_
  refine j_if_ne B 13 dL_asks_1 (by decide) (fun h1 => ?_) (fun h1 => absurd h1 (by decide))
  refine j_iload_n B dL_asks_13 1 rfl rfl ?_
  refine j_iconst B (v := 1) dL_asks_14 (by decide) ?_
  refine j_icmp_ne B 35 dL_asks_15 (by decide) (fun h2 => ?_) (fun h2 => absurd h2 (by decide))
  refine j_iload_n B dL_asks_35 1 rfl rfl ?_
  refine j_iconst B (v := 2) dL_asks_36 (by decide) ?_
  refine j_icmp_ne B 49 dL_asks_37 (by decide) (fun h3 => ?_) (fun h3 => absurd h3 (by decide))
  refine j_iload_n B dL_asks_49 1 rfl rfl ?_
  refine j_iconst B (v := 3) dL_asks_50 (by decide) ?_
  refine j_icmp_ne B 62 dL_asks_51 (by decide) (fun h4 => ?_) (fun h4 => absurd h4 (by decide))
  refine j_iload_n B dL_asks_62 1 rfl rfl ?_
  refine j_iconst B (v := 4) dL_asks_63 (by decide) ?_
  refine j_icmp_ne B 78 dL_asks_64 (by decide) (fun h5 => ?_) (fun h5 => absurd h5 (by decide))
  refine j_iload_n B dL_asks_78 1 rfl rfl ?_
  refine j_iconst B (v := 5) dL_asks_79 (by decide) ?_
  refine j_icmp_ne B 92 dL_asks_80 (by decide) (fun h6 => absurd h6 (by decide)) (fun h6 => ?_)
  refine j_aload_n B dL_asks_83 0 rfl rfl ?_
  refine j_iload_n B dL_asks_84 2 rfl rfl ?_
  refine j_iload_n B dL_asks_85 3 rfl rfl ?_
  have hsc := sc_smash σ a b
  refine j_wVi B 2 [.int a, .int b] (Wd' := fun _ => pvW D cD cC cI cL A (sp_smash σ a b).2.2 n ad φ ca f) (WdX' := pvW D cD cC cI cL A σ n ad φ ca f) (c_X2_smash l hl D cD cC cI cZ cL (pvA A ca) σ n ad hG a b) rfl (fun H h => h.x) q_362 q_363 q_364 q_1 q_365 hdX2_smash rfl ⟨Nat.le_of_ble_eq_true rfl, Nat.le_of_ble_eq_true rfl⟩ (Nat.le_of_ble_eq_true rfl) dL_asks_86 rfl ⟨Nat.le_of_ble_eq_true rfl, Nat.le_of_ble_eq_true rfl⟩ (fun _ h => h.1) (fun H h q hq hA => h.new q hq hA) (fun H h => h.1) (fun H H1 u h h2 hz hk => h.cls h2 hk) (fun H H1 h h2 hz hk => h.cls h2 hk) (fun k hk => ?_) (fun r u hp => ?_)
  · obtain ⟨hk1, hk0⟩ := hk
    have hX : (sp_smash σ a b).2.2 = σ := hsc.2 (by rw [hk1]; exact hk0)
    have hcs : k = 2 ∨ k = 3 := by have := hsc.1; omega
    rcases hcs with rfl | rfl
    · refine ⟨200, ⟨[⟨0, 194, 195, 56⟩], ⟨0, 194, 200, 58⟩, [⟨0, 194, 205, 60⟩], pgEA, ht, (List.forall_mem_cons.mpr ⟨Or.inr ⟨by decide, pgES, B.2.2.2.2.1 _ q_308, pgB_nc B (pgEA, pgES) (by decide)⟩, (fun _ h => nomatch h)⟩), by decide, by decide, B.2.2.2.2.1 _ q_309, pgB_nw B (w := .castable pgEA pgEA) (by decide) rfl, rfl⟩, fun q9 => ?_⟩
      refine j_astore B (L' := [(5, .ref q9), (0, .ref (ad 0)), (1, .int 5), (2, .int a), (3, .int b), (4, .int e)]) dL_asks_200 (by decide) rfl ?_
      refine j_bipush B (v := (-9)) dL_asks_202 (by decide) ?_
      refine j_world (Wd' := pvW D cD cC cI cL A (sp_smash σ a b).2.2 n ad φ ca f) (fun H h => by rw [hX]; exact h) ?_
      exact hret 204 _ (-9) () _ _ dL_asks_204 rfl (Nat.le_of_ble_eq_true rfl) (Nat.le_of_ble_eq_true rfl) (by unfold pvT; rw [hk1] <;> rfl)
    · refine ⟨195, ⟨[], ⟨0, 194, 195, 56⟩, [⟨0, 194, 200, 58⟩, ⟨0, 194, 205, 60⟩], pgES, ht, (fun _ h => nomatch h), by decide, by decide, B.2.2.2.2.1 _ q_308, pgB_nw B (w := .castable pgES pgES) (by decide) rfl, rfl⟩, fun q9 => ?_⟩
      refine j_astore B (L' := [(5, .ref q9), (0, .ref (ad 0)), (1, .int 5), (2, .int a), (3, .int b), (4, .int e)]) dL_asks_195 (by decide) rfl ?_
      refine j_bipush B (v := (-8)) dL_asks_197 (by decide) ?_
      refine j_world (Wd' := pvW D cD cC cI cL A (sp_smash σ a b).2.2 n ad φ ca f) (fun H h => by rw [hX]; exact h) ?_
      exact hret 199 _ (-8) () _ _ dL_asks_199 rfl (Nat.le_of_ble_eq_true rfl) (Nat.le_of_ble_eq_true rfl) (by unfold pvT; rw [hk1] <;> rfl)
  · obtain ⟨h0, rfl⟩ := hp
    refine j_goto B 194 dL_asks_89 (by decide) ?_
    exact hret 194 _ _ () _ _ dL_asks_194 rfl (Nat.le_of_ble_eq_true rfl) (Nat.le_of_ble_eq_true rfl) (by unfold pvT; rw [if_pos h0])
abbrev rm_asks_6 : Room := { frames := 8, cells := 4, slots := 24, locals := 128 }
set_option maxHeartbeats 4000000 in
set_option maxRecDepth 100000 in
/-- asks: check -/
theorem c_L_asks_6 (l : Launch) (hl : l.stackTraces = false) (D : va_G) (cD cC cI cZ cL : ClassId) (A : Nat → Prop) (σ φ : pgSt) (n : Nat) (ad ca : Nat → Nat) (f : Nat → Int64) (hG : pgI n σ) (a b e : Int32) (g : Int32) (hg : 0 < e ∧ g = 1 ∨ ¬ 0 < e ∧ g = 0) (h1 : (sp_check σ a b g).1 ≠ 1) : Met l yL_asks (.codeWith yL_asks cL_asks 6 (some .int) [(0, 194, 195, 56), (0, 194, 200, 58), (0, 194, 205, 60)] :: pgWd) rm_asks_6 (pgPc D (pgTys cD cC cI cZ cL) A (pvW D cD cC cI cL A σ n ad φ ca f) [.ref (ad 0), .int 6, .int a, .int b, .int e]) (va_Qi (fun (r : Int32) (_ : Unit) => r = pvT (sp_check σ a b g)) (fun _ t9 => (pvW D cD cC cI cL A (sp_check σ a b g).2.2 n ad φ ca f) t9.heap) A) rm_asks_6.cells rm_asks_6.slots A := by
  refine pv_enterW (own := RL) (by decide) rfl (Nat.le_of_ble_eq_true rfl) (fun p e9 s m args below meth cc9 Q B ht hret => ?_)
  rcases hg with ⟨hb, rfl⟩ | ⟨hb, rfl⟩
  · refine j_iload_n B dL_asks_0 1 rfl rfl ?_
    refine j_if_ne B 13 dL_asks_1 (by decide) (fun h1 => ?_) (fun h1 => absurd h1 (by decide))
    refine j_iload_n B dL_asks_13 1 rfl rfl ?_
    refine j_iconst B (v := 1) dL_asks_14 (by decide) ?_
    refine j_icmp_ne B 35 dL_asks_15 (by decide) (fun h2 => ?_) (fun h2 => absurd h2 (by decide))
    refine j_iload_n B dL_asks_35 1 rfl rfl ?_
    refine j_iconst B (v := 2) dL_asks_36 (by decide) ?_
    refine j_icmp_ne B 49 dL_asks_37 (by decide) (fun h3 => ?_) (fun h3 => absurd h3 (by decide))
    refine j_iload_n B dL_asks_49 1 rfl rfl ?_
    refine j_iconst B (v := 3) dL_asks_50 (by decide) ?_
    refine j_icmp_ne B 62 dL_asks_51 (by decide) (fun h4 => ?_) (fun h4 => absurd h4 (by decide))
    refine j_iload_n B dL_asks_62 1 rfl rfl ?_
    refine j_iconst B (v := 4) dL_asks_63 (by decide) ?_
    refine j_icmp_ne B 78 dL_asks_64 (by decide) (fun h5 => ?_) (fun h5 => absurd h5 (by decide))
    refine j_iload_n B dL_asks_78 1 rfl rfl ?_
    refine j_iconst B (v := 5) dL_asks_79 (by decide) ?_
    refine j_icmp_ne B 92 dL_asks_80 (by decide) (fun h6 => ?_) (fun h6 => absurd h6 (by decide))
    refine j_iload_n B dL_asks_92 1 rfl rfl ?_
    refine j_bipush B (v := 6) dL_asks_93 (by decide) ?_
    refine j_icmp_ne B 117 dL_asks_95 (by decide) (fun h7 => absurd h7 (by decide)) (fun h7 => ?_)
    refine j_aload_n B dL_asks_98 0 rfl rfl ?_
    refine j_iload_n B dL_asks_99 2 rfl rfl ?_
    refine j_iload_n B dL_asks_100 3 rfl rfl ?_
    refine j_iload B dL_asks_101 4 rfl ?_
    refine j_if_le B 110 dL_asks_103 (by decide) (fun h8 => absurd hb (Int32.not_lt.mpr h8)) (fun h8 => ?_)
    refine j_iconst B (v := 1) dL_asks_106 (by decide) ?_
    refine j_goto B 111 dL_asks_107 (by decide) ?_
    have hsc := sc_check σ a b 1
    refine j_wVi B 3 [.int a, .int b, .int 1] (Wd' := fun _ => pvW D cD cC cI cL A (sp_check σ a b 1).2.2 n ad φ ca f) (WdX' := pvW D cD cC cI cL A σ n ad φ ca f) (c_X2_check l hl D cD cC cI cZ cL (pvA A ca) σ n ad hG a b 1 (Or.inr rfl)) rfl (fun H h => h.x) q_367 q_368 q_369 q_1 q_370 hdX2_check rfl ⟨Nat.le_of_ble_eq_true rfl, Nat.le_of_ble_eq_true rfl⟩ (Nat.le_of_ble_eq_true rfl) dL_asks_111 rfl ⟨Nat.le_of_ble_eq_true rfl, Nat.le_of_ble_eq_true rfl⟩ (fun _ h => h.1) (fun H h q hq hA => h.new q hq hA) (fun H h => h.1) (fun H H1 u h h2 hz hk => h.cls h2 hk) (fun H H1 h h2 hz hk => h.cls h2 hk) (fun k hk => ?_) (fun r u hp => ?_)
    · obtain ⟨hk1, hk0⟩ := hk
      have hX : (sp_check σ a b 1).2.2 = σ := hsc.2 (by rw [hk1]; exact hk0)
      have hcs : k = 2 ∨ k = 3 := by have := hsc.1; omega
      rcases hcs with rfl | rfl
      · refine ⟨200, ⟨[⟨0, 194, 195, 56⟩], ⟨0, 194, 200, 58⟩, [⟨0, 194, 205, 60⟩], pgEA, ht, (List.forall_mem_cons.mpr ⟨Or.inr ⟨by decide, pgES, B.2.2.2.2.1 _ q_308, pgB_nc B (pgEA, pgES) (by decide)⟩, (fun _ h => nomatch h)⟩), by decide, by decide, B.2.2.2.2.1 _ q_309, pgB_nw B (w := .castable pgEA pgEA) (by decide) rfl, rfl⟩, fun q9 => ?_⟩
        refine j_astore B (L' := [(5, .ref q9), (0, .ref (ad 0)), (1, .int 6), (2, .int a), (3, .int b), (4, .int e)]) dL_asks_200 (by decide) rfl ?_
        refine j_bipush B (v := (-9)) dL_asks_202 (by decide) ?_
        refine j_world (Wd' := pvW D cD cC cI cL A (sp_check σ a b 1).2.2 n ad φ ca f) (fun H h => by rw [hX]; exact h) ?_
        exact hret 204 _ (-9) () _ _ dL_asks_204 rfl (Nat.le_of_ble_eq_true rfl) (Nat.le_of_ble_eq_true rfl) (by unfold pvT; rw [hk1] <;> rfl)
      · refine ⟨195, ⟨[], ⟨0, 194, 195, 56⟩, [⟨0, 194, 200, 58⟩, ⟨0, 194, 205, 60⟩], pgES, ht, (fun _ h => nomatch h), by decide, by decide, B.2.2.2.2.1 _ q_308, pgB_nw B (w := .castable pgES pgES) (by decide) rfl, rfl⟩, fun q9 => ?_⟩
        refine j_astore B (L' := [(5, .ref q9), (0, .ref (ad 0)), (1, .int 6), (2, .int a), (3, .int b), (4, .int e)]) dL_asks_195 (by decide) rfl ?_
        refine j_bipush B (v := (-8)) dL_asks_197 (by decide) ?_
        refine j_world (Wd' := pvW D cD cC cI cL A (sp_check σ a b 1).2.2 n ad φ ca f) (fun H h => by rw [hX]; exact h) ?_
        exact hret 199 _ (-8) () _ _ dL_asks_199 rfl (Nat.le_of_ble_eq_true rfl) (Nat.le_of_ble_eq_true rfl) (by unfold pvT; rw [hk1] <;> rfl)
    · obtain ⟨h0, rfl⟩ := hp
      refine j_goto B 194 dL_asks_114 (by decide) ?_
      exact hret 194 _ _ () _ _ dL_asks_194 rfl (Nat.le_of_ble_eq_true rfl) (Nat.le_of_ble_eq_true rfl) (by unfold pvT; rw [if_pos h0])
  · refine j_iload_n B dL_asks_0 1 rfl rfl ?_
    refine j_if_ne B 13 dL_asks_1 (by decide) (fun h9 => ?_) (fun h9 => absurd h9 (by decide))
    refine j_iload_n B dL_asks_13 1 rfl rfl ?_
    refine j_iconst B (v := 1) dL_asks_14 (by decide) ?_
    refine j_icmp_ne B 35 dL_asks_15 (by decide) (fun h10 => ?_) (fun h10 => absurd h10 (by decide))
    refine j_iload_n B dL_asks_35 1 rfl rfl ?_
    refine j_iconst B (v := 2) dL_asks_36 (by decide) ?_
    refine j_icmp_ne B 49 dL_asks_37 (by decide) (fun h11 => ?_) (fun h11 => absurd h11 (by decide))
    refine j_iload_n B dL_asks_49 1 rfl rfl ?_
    refine j_iconst B (v := 3) dL_asks_50 (by decide) ?_
    refine j_icmp_ne B 62 dL_asks_51 (by decide) (fun h12 => ?_) (fun h12 => absurd h12 (by decide))
    refine j_iload_n B dL_asks_62 1 rfl rfl ?_
    refine j_iconst B (v := 4) dL_asks_63 (by decide) ?_
    refine j_icmp_ne B 78 dL_asks_64 (by decide) (fun h13 => ?_) (fun h13 => absurd h13 (by decide))
    refine j_iload_n B dL_asks_78 1 rfl rfl ?_
    refine j_iconst B (v := 5) dL_asks_79 (by decide) ?_
    refine j_icmp_ne B 92 dL_asks_80 (by decide) (fun h14 => ?_) (fun h14 => absurd h14 (by decide))
    refine j_iload_n B dL_asks_92 1 rfl rfl ?_
    refine j_bipush B (v := 6) dL_asks_93 (by decide) ?_
    refine j_icmp_ne B 117 dL_asks_95 (by decide) (fun h15 => absurd h15 (by decide)) (fun h15 => ?_)
    refine j_aload_n B dL_asks_98 0 rfl rfl ?_
    refine j_iload_n B dL_asks_99 2 rfl rfl ?_
    refine j_iload_n B dL_asks_100 3 rfl rfl ?_
    refine j_iload B dL_asks_101 4 rfl ?_
    refine j_if_le B 110 dL_asks_103 (by decide) (fun h16 => ?_) (fun h16 => absurd (Int32.not_lt.mp hb) h16)
    refine j_iconst B (v := 0) dL_asks_110 (by decide) ?_
    have hsc := sc_check σ a b 0
    refine j_wVi B 3 [.int a, .int b, .int 0] (Wd' := fun _ => pvW D cD cC cI cL A (sp_check σ a b 0).2.2 n ad φ ca f) (WdX' := pvW D cD cC cI cL A σ n ad φ ca f) (c_X2_check l hl D cD cC cI cZ cL (pvA A ca) σ n ad hG a b 0 (Or.inl rfl)) rfl (fun H h => h.x) q_367 q_368 q_369 q_1 q_370 hdX2_check rfl ⟨Nat.le_of_ble_eq_true rfl, Nat.le_of_ble_eq_true rfl⟩ (Nat.le_of_ble_eq_true rfl) dL_asks_111 rfl ⟨Nat.le_of_ble_eq_true rfl, Nat.le_of_ble_eq_true rfl⟩ (fun _ h => h.1) (fun H h q hq hA => h.new q hq hA) (fun H h => h.1) (fun H H1 u h h2 hz hk => h.cls h2 hk) (fun H H1 h h2 hz hk => h.cls h2 hk) (fun k hk => ?_) (fun r u hp => ?_)
    · obtain ⟨hk1, hk0⟩ := hk
      have hX : (sp_check σ a b 0).2.2 = σ := hsc.2 (by rw [hk1]; exact hk0)
      have hcs : k = 2 ∨ k = 3 := by have := hsc.1; omega
      rcases hcs with rfl | rfl
      · refine ⟨200, ⟨[⟨0, 194, 195, 56⟩], ⟨0, 194, 200, 58⟩, [⟨0, 194, 205, 60⟩], pgEA, ht, (List.forall_mem_cons.mpr ⟨Or.inr ⟨by decide, pgES, B.2.2.2.2.1 _ q_308, pgB_nc B (pgEA, pgES) (by decide)⟩, (fun _ h => nomatch h)⟩), by decide, by decide, B.2.2.2.2.1 _ q_309, pgB_nw B (w := .castable pgEA pgEA) (by decide) rfl, rfl⟩, fun q9 => ?_⟩
        refine j_astore B (L' := [(5, .ref q9), (0, .ref (ad 0)), (1, .int 6), (2, .int a), (3, .int b), (4, .int e)]) dL_asks_200 (by decide) rfl ?_
        refine j_bipush B (v := (-9)) dL_asks_202 (by decide) ?_
        refine j_world (Wd' := pvW D cD cC cI cL A (sp_check σ a b 0).2.2 n ad φ ca f) (fun H h => by rw [hX]; exact h) ?_
        exact hret 204 _ (-9) () _ _ dL_asks_204 rfl (Nat.le_of_ble_eq_true rfl) (Nat.le_of_ble_eq_true rfl) (by unfold pvT; rw [hk1] <;> rfl)
      · refine ⟨195, ⟨[], ⟨0, 194, 195, 56⟩, [⟨0, 194, 200, 58⟩, ⟨0, 194, 205, 60⟩], pgES, ht, (fun _ h => nomatch h), by decide, by decide, B.2.2.2.2.1 _ q_308, pgB_nw B (w := .castable pgES pgES) (by decide) rfl, rfl⟩, fun q9 => ?_⟩
        refine j_astore B (L' := [(5, .ref q9), (0, .ref (ad 0)), (1, .int 6), (2, .int a), (3, .int b), (4, .int e)]) dL_asks_195 (by decide) rfl ?_
        refine j_bipush B (v := (-8)) dL_asks_197 (by decide) ?_
        refine j_world (Wd' := pvW D cD cC cI cL A (sp_check σ a b 0).2.2 n ad φ ca f) (fun H h => by rw [hX]; exact h) ?_
        exact hret 199 _ (-8) () _ _ dL_asks_199 rfl (Nat.le_of_ble_eq_true rfl) (Nat.le_of_ble_eq_true rfl) (by unfold pvT; rw [hk1] <;> rfl)
    · obtain ⟨h0, rfl⟩ := hp
      refine j_goto B 194 dL_asks_114 (by decide) ?_
      exact hret 194 _ _ () _ _ dL_asks_194 rfl (Nat.le_of_ble_eq_true rfl) (Nat.le_of_ble_eq_true rfl) (by unfold pvT; rw [if_pos h0])
abbrev rm_asks_7 : Room := { frames := 8, cells := 2, slots := 12, locals := 126 }
set_option maxHeartbeats 4000000 in
set_option maxRecDepth 100000 in
/-- asks: lose -/
theorem c_L_asks_7 (l : Launch) (hl : l.stackTraces = false) (D : va_G) (cD cC cI cZ cL : ClassId) (A : Nat → Prop) (σ φ : pgSt) (n : Nat) (ad ca : Nat → Nat) (f : Nat → Int64) (hG : pgI n σ) (a b e : Int32) (h1 : (sp_lose σ a).1 ≠ 1) : Met l yL_asks (.codeWith yL_asks cL_asks 6 (some .int) [(0, 194, 195, 56), (0, 194, 200, 58), (0, 194, 205, 60)] :: pgWd) rm_asks_7 (pgPc D (pgTys cD cC cI cZ cL) A (pvW D cD cC cI cL A σ n ad φ ca f) [.ref (ad 0), .int 7, .int a, .int b, .int e]) (va_Qi (fun (r : Int32) (_ : Unit) => r = pvT (sp_lose σ a)) (fun _ t9 => (pvW D cD cC cI cL A (sp_lose σ a).2.2 n ad φ ca f) t9.heap) A) rm_asks_7.cells rm_asks_7.slots A := by
  refine pv_enterW (own := RL) (by decide) rfl (Nat.le_of_ble_eq_true rfl) (fun p e9 s m args below meth cc9 Q B ht hret => ?_)
  refine j_iload_n B dL_asks_0 1 rfl rfl ?_
  refine j_if_ne B 13 dL_asks_1 (by decide) (fun h1 => ?_) (fun h1 => absurd h1 (by decide))
  refine j_iload_n B dL_asks_13 1 rfl rfl ?_
  refine j_iconst B (v := 1) dL_asks_14 (by decide) ?_
  refine j_icmp_ne B 35 dL_asks_15 (by decide) (fun h2 => ?_) (fun h2 => absurd h2 (by decide))
  refine j_iload_n B dL_asks_35 1 rfl rfl ?_
  refine j_iconst B (v := 2) dL_asks_36 (by decide) ?_
  refine j_icmp_ne B 49 dL_asks_37 (by decide) (fun h3 => ?_) (fun h3 => absurd h3 (by decide))
  refine j_iload_n B dL_asks_49 1 rfl rfl ?_
  refine j_iconst B (v := 3) dL_asks_50 (by decide) ?_
  refine j_icmp_ne B 62 dL_asks_51 (by decide) (fun h4 => ?_) (fun h4 => absurd h4 (by decide))
  refine j_iload_n B dL_asks_62 1 rfl rfl ?_
  refine j_iconst B (v := 4) dL_asks_63 (by decide) ?_
  refine j_icmp_ne B 78 dL_asks_64 (by decide) (fun h5 => ?_) (fun h5 => absurd h5 (by decide))
  refine j_iload_n B dL_asks_78 1 rfl rfl ?_
  refine j_iconst B (v := 5) dL_asks_79 (by decide) ?_
  refine j_icmp_ne B 92 dL_asks_80 (by decide) (fun h6 => ?_) (fun h6 => absurd h6 (by decide))
  refine j_iload_n B dL_asks_92 1 rfl rfl ?_
  refine j_bipush B (v := 6) dL_asks_93 (by decide) ?_
  refine j_icmp_ne B 117 dL_asks_95 (by decide) (fun h7 => ?_) (fun h7 => absurd h7 (by decide))
  refine j_iload_n B dL_asks_117 1 rfl rfl ?_
  refine j_bipush B (v := 7) dL_asks_118 (by decide) ?_
  refine j_icmp_ne B 131 dL_asks_120 (by decide) (fun h8 => absurd h8 (by decide)) (fun h8 => ?_)
  refine j_aload_n B dL_asks_123 0 rfl rfl ?_
  refine j_iload_n B dL_asks_124 2 rfl rfl ?_
  have hsc := sc_lose σ a
  refine j_wVi B 1 [.int a] (Wd' := fun _ => pvW D cD cC cI cL A (sp_lose σ a).2.2 n ad φ ca f) (WdX' := pvW D cD cC cI cL A σ n ad φ ca f) (c_X2_lose l hl D cD cC cI cZ cL (pvA A ca) σ n ad hG a) rfl (fun H h => h.x) q_373 q_374 q_375 q_1 q_376 hdX2_lose rfl ⟨Nat.le_of_ble_eq_true rfl, Nat.le_of_ble_eq_true rfl⟩ (Nat.le_of_ble_eq_true rfl) dL_asks_125 rfl ⟨Nat.le_of_ble_eq_true rfl, Nat.le_of_ble_eq_true rfl⟩ (fun _ h => h.1) (fun H h q hq hA => h.new q hq hA) (fun H h => h.1) (fun H H1 u h h2 hz hk => h.cls h2 hk) (fun H H1 h h2 hz hk => h.cls h2 hk) (fun k hk => ?_) (fun r u hp => ?_)
  · obtain ⟨hk1, hk0⟩ := hk
    have hX : (sp_lose σ a).2.2 = σ := hsc.2 (by rw [hk1]; exact hk0)
    have hcs : k = 3 := by have := hsc.1; omega
    rcases hcs with rfl
    · refine ⟨195, ⟨[], ⟨0, 194, 195, 56⟩, [⟨0, 194, 200, 58⟩, ⟨0, 194, 205, 60⟩], pgES, ht, (fun _ h => nomatch h), by decide, by decide, B.2.2.2.2.1 _ q_308, pgB_nw B (w := .castable pgES pgES) (by decide) rfl, rfl⟩, fun q9 => ?_⟩
      refine j_astore B (L' := [(5, .ref q9), (0, .ref (ad 0)), (1, .int 7), (2, .int a), (3, .int b), (4, .int e)]) dL_asks_195 (by decide) rfl ?_
      refine j_bipush B (v := (-8)) dL_asks_197 (by decide) ?_
      refine j_world (Wd' := pvW D cD cC cI cL A (sp_lose σ a).2.2 n ad φ ca f) (fun H h => by rw [hX]; exact h) ?_
      exact hret 199 _ (-8) () _ _ dL_asks_199 rfl (Nat.le_of_ble_eq_true rfl) (Nat.le_of_ble_eq_true rfl) (by unfold pvT; rw [hk1] <;> rfl)
  · obtain ⟨h0, rfl⟩ := hp
    refine j_goto B 194 dL_asks_128 (by decide) ?_
    exact hret 194 _ _ () _ _ dL_asks_194 rfl (Nat.le_of_ble_eq_true rfl) (Nat.le_of_ble_eq_true rfl) (by unfold pvT; rw [if_pos h0])
abbrev rm_asks_8 : Room := { frames := 8, cells := 2, slots := 12, locals := 126 }
set_option maxHeartbeats 4000000 in
set_option maxRecDepth 100000 in
/-- asks: find -/
theorem c_L_asks_8 (l : Launch) (hl : l.stackTraces = false) (D : va_G) (cD cC cI cZ cL : ClassId) (A : Nat → Prop) (σ φ : pgSt) (n : Nat) (ad ca : Nat → Nat) (f : Nat → Int64) (hG : pgI n σ) (a b e : Int32) (h1 : (sp_find σ a).1 ≠ 1) : Met l yL_asks (.codeWith yL_asks cL_asks 6 (some .int) [(0, 194, 195, 56), (0, 194, 200, 58), (0, 194, 205, 60)] :: pgWd) rm_asks_8 (pgPc D (pgTys cD cC cI cZ cL) A (pvW D cD cC cI cL A σ n ad φ ca f) [.ref (ad 0), .int 8, .int a, .int b, .int e]) (va_Qi (fun (r : Int32) (_ : Unit) => r = pvT (sp_find σ a)) (fun _ t9 => (pvW D cD cC cI cL A (sp_find σ a).2.2 n ad φ ca f) t9.heap) A) rm_asks_8.cells rm_asks_8.slots A := by
  refine pv_enterW (own := RL) (by decide) rfl (Nat.le_of_ble_eq_true rfl) (fun p e9 s m args below meth cc9 Q B ht hret => ?_)
  refine j_iload_n B dL_asks_0 1 rfl rfl ?_
  refine j_if_ne B 13 dL_asks_1 (by decide) (fun h1 => ?_) (fun h1 => absurd h1 (by decide))
  refine j_iload_n B dL_asks_13 1 rfl rfl ?_
  refine j_iconst B (v := 1) dL_asks_14 (by decide) ?_
  refine j_icmp_ne B 35 dL_asks_15 (by decide) (fun h2 => ?_) (fun h2 => absurd h2 (by decide))
  refine j_iload_n B dL_asks_35 1 rfl rfl ?_
  refine j_iconst B (v := 2) dL_asks_36 (by decide) ?_
  refine j_icmp_ne B 49 dL_asks_37 (by decide) (fun h3 => ?_) (fun h3 => absurd h3 (by decide))
  refine j_iload_n B dL_asks_49 1 rfl rfl ?_
  refine j_iconst B (v := 3) dL_asks_50 (by decide) ?_
  refine j_icmp_ne B 62 dL_asks_51 (by decide) (fun h4 => ?_) (fun h4 => absurd h4 (by decide))
  refine j_iload_n B dL_asks_62 1 rfl rfl ?_
  refine j_iconst B (v := 4) dL_asks_63 (by decide) ?_
  refine j_icmp_ne B 78 dL_asks_64 (by decide) (fun h5 => ?_) (fun h5 => absurd h5 (by decide))
  refine j_iload_n B dL_asks_78 1 rfl rfl ?_
  refine j_iconst B (v := 5) dL_asks_79 (by decide) ?_
  refine j_icmp_ne B 92 dL_asks_80 (by decide) (fun h6 => ?_) (fun h6 => absurd h6 (by decide))
  refine j_iload_n B dL_asks_92 1 rfl rfl ?_
  refine j_bipush B (v := 6) dL_asks_93 (by decide) ?_
  refine j_icmp_ne B 117 dL_asks_95 (by decide) (fun h7 => ?_) (fun h7 => absurd h7 (by decide))
  refine j_iload_n B dL_asks_117 1 rfl rfl ?_
  refine j_bipush B (v := 7) dL_asks_118 (by decide) ?_
  refine j_icmp_ne B 131 dL_asks_120 (by decide) (fun h8 => ?_) (fun h8 => absurd h8 (by decide))
  refine j_iload_n B dL_asks_131 1 rfl rfl ?_
  refine j_bipush B (v := 8) dL_asks_132 (by decide) ?_
  refine j_icmp_ne B 145 dL_asks_134 (by decide) (fun h9 => absurd h9 (by decide)) (fun h9 => ?_)
  refine j_aload_n B dL_asks_137 0 rfl rfl ?_
  refine j_iload_n B dL_asks_138 2 rfl rfl ?_
  have hsc := sc_find σ a
  refine j_wVi B 1 [.int a] (Wd' := fun _ => pvW D cD cC cI cL A (sp_find σ a).2.2 n ad φ ca f) (WdX' := pvW D cD cC cI cL A σ n ad φ ca f) (c_X2_find l hl D cD cC cI cZ cL (pvA A ca) σ n ad hG a) rfl (fun H h => h.x) q_378 q_379 q_380 q_1 q_381 hdX2_find rfl ⟨Nat.le_of_ble_eq_true rfl, Nat.le_of_ble_eq_true rfl⟩ (Nat.le_of_ble_eq_true rfl) dL_asks_139 rfl ⟨Nat.le_of_ble_eq_true rfl, Nat.le_of_ble_eq_true rfl⟩ (fun _ h => h.1) (fun H h q hq hA => h.new q hq hA) (fun H h => h.1) (fun H H1 u h h2 hz hk => h.cls h2 hk) (fun H H1 h h2 hz hk => h.cls h2 hk) (fun k hk => ?_) (fun r u hp => ?_)
  · obtain ⟨hk1, hk0⟩ := hk
    have hX : (sp_find σ a).2.2 = σ := hsc.2 (by rw [hk1]; exact hk0)
    have hcs : k = 3 := by have := hsc.1; omega
    rcases hcs with rfl
    · refine ⟨195, ⟨[], ⟨0, 194, 195, 56⟩, [⟨0, 194, 200, 58⟩, ⟨0, 194, 205, 60⟩], pgES, ht, (fun _ h => nomatch h), by decide, by decide, B.2.2.2.2.1 _ q_308, pgB_nw B (w := .castable pgES pgES) (by decide) rfl, rfl⟩, fun q9 => ?_⟩
      refine j_astore B (L' := [(5, .ref q9), (0, .ref (ad 0)), (1, .int 8), (2, .int a), (3, .int b), (4, .int e)]) dL_asks_195 (by decide) rfl ?_
      refine j_bipush B (v := (-8)) dL_asks_197 (by decide) ?_
      refine j_world (Wd' := pvW D cD cC cI cL A (sp_find σ a).2.2 n ad φ ca f) (fun H h => by rw [hX]; exact h) ?_
      exact hret 199 _ (-8) () _ _ dL_asks_199 rfl (Nat.le_of_ble_eq_true rfl) (Nat.le_of_ble_eq_true rfl) (by unfold pvT; rw [hk1] <;> rfl)
  · obtain ⟨h0, rfl⟩ := hp
    refine j_goto B 194 dL_asks_142 (by decide) ?_
    exact hret 194 _ _ () _ _ dL_asks_194 rfl (Nat.le_of_ble_eq_true rfl) (Nat.le_of_ble_eq_true rfl) (by unfold pvT; rw [if_pos h0])
abbrev rm_asks_9 : Room := { frames := 8, cells := 2, slots := 12, locals := 126 }
set_option maxHeartbeats 4000000 in
set_option maxRecDepth 100000 in
/-- asks: seal -/
theorem c_L_asks_9 (l : Launch) (hl : l.stackTraces = false) (D : va_G) (cD cC cI cZ cL : ClassId) (A : Nat → Prop) (σ φ : pgSt) (n : Nat) (ad ca : Nat → Nat) (f : Nat → Int64) (hG : pgI n σ) (a b e : Int32) (h1 : (sp_seal σ a).1 ≠ 1) : Met l yL_asks (.codeWith yL_asks cL_asks 6 (some .int) [(0, 194, 195, 56), (0, 194, 200, 58), (0, 194, 205, 60)] :: pgWd) rm_asks_9 (pgPc D (pgTys cD cC cI cZ cL) A (pvW D cD cC cI cL A σ n ad φ ca f) [.ref (ad 0), .int 9, .int a, .int b, .int e]) (va_Qi (fun (r : Int32) (_ : Unit) => r = pvT (sp_seal σ a)) (fun _ t9 => (pvW D cD cC cI cL A (sp_seal σ a).2.2 n ad φ ca f) t9.heap) A) rm_asks_9.cells rm_asks_9.slots A := by
  refine pv_enterW (own := RL) (by decide) rfl (Nat.le_of_ble_eq_true rfl) (fun p e9 s m args below meth cc9 Q B ht hret => ?_)
  refine j_iload_n B dL_asks_0 1 rfl rfl ?_
  refine j_if_ne B 13 dL_asks_1 (by decide) (fun h1 => ?_) (fun h1 => absurd h1 (by decide))
  refine j_iload_n B dL_asks_13 1 rfl rfl ?_
  refine j_iconst B (v := 1) dL_asks_14 (by decide) ?_
  refine j_icmp_ne B 35 dL_asks_15 (by decide) (fun h2 => ?_) (fun h2 => absurd h2 (by decide))
  refine j_iload_n B dL_asks_35 1 rfl rfl ?_
  refine j_iconst B (v := 2) dL_asks_36 (by decide) ?_
  refine j_icmp_ne B 49 dL_asks_37 (by decide) (fun h3 => ?_) (fun h3 => absurd h3 (by decide))
  refine j_iload_n B dL_asks_49 1 rfl rfl ?_
  refine j_iconst B (v := 3) dL_asks_50 (by decide) ?_
  refine j_icmp_ne B 62 dL_asks_51 (by decide) (fun h4 => ?_) (fun h4 => absurd h4 (by decide))
  refine j_iload_n B dL_asks_62 1 rfl rfl ?_
  refine j_iconst B (v := 4) dL_asks_63 (by decide) ?_
  refine j_icmp_ne B 78 dL_asks_64 (by decide) (fun h5 => ?_) (fun h5 => absurd h5 (by decide))
  refine j_iload_n B dL_asks_78 1 rfl rfl ?_
  refine j_iconst B (v := 5) dL_asks_79 (by decide) ?_
  refine j_icmp_ne B 92 dL_asks_80 (by decide) (fun h6 => ?_) (fun h6 => absurd h6 (by decide))
  refine j_iload_n B dL_asks_92 1 rfl rfl ?_
  refine j_bipush B (v := 6) dL_asks_93 (by decide) ?_
  refine j_icmp_ne B 117 dL_asks_95 (by decide) (fun h7 => ?_) (fun h7 => absurd h7 (by decide))
  refine j_iload_n B dL_asks_117 1 rfl rfl ?_
  refine j_bipush B (v := 7) dL_asks_118 (by decide) ?_
  refine j_icmp_ne B 131 dL_asks_120 (by decide) (fun h8 => ?_) (fun h8 => absurd h8 (by decide))
  refine j_iload_n B dL_asks_131 1 rfl rfl ?_
  refine j_bipush B (v := 8) dL_asks_132 (by decide) ?_
  refine j_icmp_ne B 145 dL_asks_134 (by decide) (fun h9 => ?_) (fun h9 => absurd h9 (by decide))
  refine j_iload_n B dL_asks_145 1 rfl rfl ?_
  refine j_bipush B (v := 9) dL_asks_146 (by decide) ?_
  refine j_icmp_ne B 159 dL_asks_148 (by decide) (fun h10 => absurd h10 (by decide)) (fun h10 => ?_)
  refine j_aload_n B dL_asks_151 0 rfl rfl ?_
  refine j_iload_n B dL_asks_152 2 rfl rfl ?_
  have hsc := sc_seal σ a
  refine j_wVi B 1 [.int a] (Wd' := fun _ => pvW D cD cC cI cL A (sp_seal σ a).2.2 n ad φ ca f) (WdX' := pvW D cD cC cI cL A σ n ad φ ca f) (c_X2_seal l hl D cD cC cI cZ cL (pvA A ca) σ n ad hG a) rfl (fun H h => h.x) q_383 q_384 q_385 q_1 q_386 hdX2_seal rfl ⟨Nat.le_of_ble_eq_true rfl, Nat.le_of_ble_eq_true rfl⟩ (Nat.le_of_ble_eq_true rfl) dL_asks_153 rfl ⟨Nat.le_of_ble_eq_true rfl, Nat.le_of_ble_eq_true rfl⟩ (fun _ h => h.1) (fun H h q hq hA => h.new q hq hA) (fun H h => h.1) (fun H H1 u h h2 hz hk => h.cls h2 hk) (fun H H1 h h2 hz hk => h.cls h2 hk) (fun k hk => ?_) (fun r u hp => ?_)
  · obtain ⟨hk1, hk0⟩ := hk
    have hX : (sp_seal σ a).2.2 = σ := hsc.2 (by rw [hk1]; exact hk0)
    have hcs : k = 3 := by have := hsc.1; omega
    rcases hcs with rfl
    · refine ⟨195, ⟨[], ⟨0, 194, 195, 56⟩, [⟨0, 194, 200, 58⟩, ⟨0, 194, 205, 60⟩], pgES, ht, (fun _ h => nomatch h), by decide, by decide, B.2.2.2.2.1 _ q_308, pgB_nw B (w := .castable pgES pgES) (by decide) rfl, rfl⟩, fun q9 => ?_⟩
      refine j_astore B (L' := [(5, .ref q9), (0, .ref (ad 0)), (1, .int 9), (2, .int a), (3, .int b), (4, .int e)]) dL_asks_195 (by decide) rfl ?_
      refine j_bipush B (v := (-8)) dL_asks_197 (by decide) ?_
      refine j_world (Wd' := pvW D cD cC cI cL A (sp_seal σ a).2.2 n ad φ ca f) (fun H h => by rw [hX]; exact h) ?_
      exact hret 199 _ (-8) () _ _ dL_asks_199 rfl (Nat.le_of_ble_eq_true rfl) (Nat.le_of_ble_eq_true rfl) (by unfold pvT; rw [hk1] <;> rfl)
  · obtain ⟨h0, rfl⟩ := hp
    refine j_goto B 194 dL_asks_156 (by decide) ?_
    exact hret 194 _ _ () _ _ dL_asks_194 rfl (Nat.le_of_ble_eq_true rfl) (Nat.le_of_ble_eq_true rfl) (by unfold pvT; rw [if_pos h0])
abbrev rm_asks_10 : Room := { frames := 8, cells := 2, slots := 12, locals := 128 }
set_option maxHeartbeats 4000000 in
set_option maxRecDepth 100000 in
/-- asks: open -/
theorem c_L_asks_10 (l : Launch) (hl : l.stackTraces = false) (D : va_G) (cD cC cI cZ cL : ClassId) (A : Nat → Prop) (σ φ : pgSt) (n : Nat) (ad ca : Nat → Nat) (f : Nat → Int64) (hG : pgI n σ) (a b e : Int32) (h1 : (sp_open σ a b).1 ≠ 1) : Met l yL_asks (.codeWith yL_asks cL_asks 6 (some .int) [(0, 194, 195, 56), (0, 194, 200, 58), (0, 194, 205, 60)] :: pgWd) rm_asks_10 (pgPc D (pgTys cD cC cI cZ cL) A (pvW D cD cC cI cL A σ n ad φ ca f) [.ref (ad 0), .int 10, .int a, .int b, .int e]) (va_Qi (fun (r : Int32) (_ : Unit) => r = pvT (sp_open σ a b)) (fun _ t9 => (pvW D cD cC cI cL A (sp_open σ a b).2.2 n ad φ ca f) t9.heap) A) rm_asks_10.cells rm_asks_10.slots A := by
  refine pv_enterW (own := RL) (by decide) rfl (Nat.le_of_ble_eq_true rfl) (fun p e9 s m args below meth cc9 Q B ht hret => ?_)
  refine j_iload_n B dL_asks_0 1 rfl rfl ?_
  refine j_if_ne B 13 dL_asks_1 (by decide) (fun h1 => ?_) (fun h1 => absurd h1 (by decide))
  refine j_iload_n B dL_asks_13 1 rfl rfl ?_
  refine j_iconst B (v := 1) dL_asks_14 (by decide) ?_
  refine j_icmp_ne B 35 dL_asks_15 (by decide) (fun h2 => ?_) (fun h2 => absurd h2 (by decide))
  refine j_iload_n B dL_asks_35 1 rfl rfl ?_
  refine j_iconst B (v := 2) dL_asks_36 (by decide) ?_
  refine j_icmp_ne B 49 dL_asks_37 (by decide) (fun h3 => ?_) (fun h3 => absurd h3 (by decide))
  refine j_iload_n B dL_asks_49 1 rfl rfl ?_
  refine j_iconst B (v := 3) dL_asks_50 (by decide) ?_
  refine j_icmp_ne B 62 dL_asks_51 (by decide) (fun h4 => ?_) (fun h4 => absurd h4 (by decide))
  refine j_iload_n B dL_asks_62 1 rfl rfl ?_
  refine j_iconst B (v := 4) dL_asks_63 (by decide) ?_
  refine j_icmp_ne B 78 dL_asks_64 (by decide) (fun h5 => ?_) (fun h5 => absurd h5 (by decide))
  refine j_iload_n B dL_asks_78 1 rfl rfl ?_
  refine j_iconst B (v := 5) dL_asks_79 (by decide) ?_
  refine j_icmp_ne B 92 dL_asks_80 (by decide) (fun h6 => ?_) (fun h6 => absurd h6 (by decide))
  refine j_iload_n B dL_asks_92 1 rfl rfl ?_
  refine j_bipush B (v := 6) dL_asks_93 (by decide) ?_
  refine j_icmp_ne B 117 dL_asks_95 (by decide) (fun h7 => ?_) (fun h7 => absurd h7 (by decide))
  refine j_iload_n B dL_asks_117 1 rfl rfl ?_
  refine j_bipush B (v := 7) dL_asks_118 (by decide) ?_
  refine j_icmp_ne B 131 dL_asks_120 (by decide) (fun h8 => ?_) (fun h8 => absurd h8 (by decide))
  refine j_iload_n B dL_asks_131 1 rfl rfl ?_
  refine j_bipush B (v := 8) dL_asks_132 (by decide) ?_
  refine j_icmp_ne B 145 dL_asks_134 (by decide) (fun h9 => ?_) (fun h9 => absurd h9 (by decide))
  refine j_iload_n B dL_asks_145 1 rfl rfl ?_
  refine j_bipush B (v := 9) dL_asks_146 (by decide) ?_
  refine j_icmp_ne B 159 dL_asks_148 (by decide) (fun h10 => ?_) (fun h10 => absurd h10 (by decide))
  refine j_iload_n B dL_asks_159 1 rfl rfl ?_
  refine j_bipush B (v := 10) dL_asks_160 (by decide) ?_
  refine j_icmp_ne B 174 dL_asks_162 (by decide) (fun h11 => absurd h11 (by decide)) (fun h11 => ?_)
  refine j_aload_n B dL_asks_165 0 rfl rfl ?_
  refine j_iload_n B dL_asks_166 2 rfl rfl ?_
  refine j_iload_n B dL_asks_167 3 rfl rfl ?_
  have hsc := sc_open σ a b
  refine j_wVi B 2 [.int a, .int b] (Wd' := fun _ => pvW D cD cC cI cL A (sp_open σ a b).2.2 n ad φ ca f) (WdX' := pvW D cD cC cI cL A σ n ad φ ca f) (c_X2_open l hl D cD cC cI cZ cL (pvA A ca) σ n ad hG a b) rfl (fun H h => h.x) q_388 q_389 q_390 q_1 q_391 hdX2_open rfl ⟨Nat.le_of_ble_eq_true rfl, Nat.le_of_ble_eq_true rfl⟩ (Nat.le_of_ble_eq_true rfl) dL_asks_168 rfl ⟨Nat.le_of_ble_eq_true rfl, Nat.le_of_ble_eq_true rfl⟩ (fun _ h => h.1) (fun H h q hq hA => h.new q hq hA) (fun H h => h.1) (fun H H1 u h h2 hz hk => h.cls h2 hk) (fun H H1 h h2 hz hk => h.cls h2 hk) (fun k hk => ?_) (fun r u hp => ?_)
  · obtain ⟨hk1, hk0⟩ := hk
    have hX : (sp_open σ a b).2.2 = σ := hsc.2 (by rw [hk1]; exact hk0)
    have hcs : k = 2 ∨ k = 3 := by have := hsc.1; omega
    rcases hcs with rfl | rfl
    · refine ⟨200, ⟨[⟨0, 194, 195, 56⟩], ⟨0, 194, 200, 58⟩, [⟨0, 194, 205, 60⟩], pgEA, ht, (List.forall_mem_cons.mpr ⟨Or.inr ⟨by decide, pgES, B.2.2.2.2.1 _ q_308, pgB_nc B (pgEA, pgES) (by decide)⟩, (fun _ h => nomatch h)⟩), by decide, by decide, B.2.2.2.2.1 _ q_309, pgB_nw B (w := .castable pgEA pgEA) (by decide) rfl, rfl⟩, fun q9 => ?_⟩
      refine j_astore B (L' := [(5, .ref q9), (0, .ref (ad 0)), (1, .int 10), (2, .int a), (3, .int b), (4, .int e)]) dL_asks_200 (by decide) rfl ?_
      refine j_bipush B (v := (-9)) dL_asks_202 (by decide) ?_
      refine j_world (Wd' := pvW D cD cC cI cL A (sp_open σ a b).2.2 n ad φ ca f) (fun H h => by rw [hX]; exact h) ?_
      exact hret 204 _ (-9) () _ _ dL_asks_204 rfl (Nat.le_of_ble_eq_true rfl) (Nat.le_of_ble_eq_true rfl) (by unfold pvT; rw [hk1] <;> rfl)
    · refine ⟨195, ⟨[], ⟨0, 194, 195, 56⟩, [⟨0, 194, 200, 58⟩, ⟨0, 194, 205, 60⟩], pgES, ht, (fun _ h => nomatch h), by decide, by decide, B.2.2.2.2.1 _ q_308, pgB_nw B (w := .castable pgES pgES) (by decide) rfl, rfl⟩, fun q9 => ?_⟩
      refine j_astore B (L' := [(5, .ref q9), (0, .ref (ad 0)), (1, .int 10), (2, .int a), (3, .int b), (4, .int e)]) dL_asks_195 (by decide) rfl ?_
      refine j_bipush B (v := (-8)) dL_asks_197 (by decide) ?_
      refine j_world (Wd' := pvW D cD cC cI cL A (sp_open σ a b).2.2 n ad φ ca f) (fun H h => by rw [hX]; exact h) ?_
      exact hret 199 _ (-8) () _ _ dL_asks_199 rfl (Nat.le_of_ble_eq_true rfl) (Nat.le_of_ble_eq_true rfl) (by unfold pvT; rw [hk1] <;> rfl)
  · obtain ⟨h0, rfl⟩ := hp
    refine j_goto B 194 dL_asks_171 (by decide) ?_
    exact hret 194 _ _ () _ _ dL_asks_194 rfl (Nat.le_of_ble_eq_true rfl) (Nat.le_of_ble_eq_true rfl) (by unfold pvT; rw [if_pos h0])
abbrev rm_asks_11 : Room := { frames := 8, cells := 3, slots := 18, locals := 128 }
set_option maxHeartbeats 4000000 in
set_option maxRecDepth 100000 in
/-- asks: carry -/
theorem c_L_asks_11 (l : Launch) (hl : l.stackTraces = false) (D : va_G) (cD cC cI cZ cL : ClassId) (A : Nat → Prop) (σ φ : pgSt) (n : Nat) (ad ca : Nat → Nat) (f : Nat → Int64) (hG : pgI n σ) (a b e : Int32) (h1 : (sp_carry σ a b).1 ≠ 1) : Met l yL_asks (.codeWith yL_asks cL_asks 6 (some .int) [(0, 194, 195, 56), (0, 194, 200, 58), (0, 194, 205, 60)] :: pgWd) rm_asks_11 (pgPc D (pgTys cD cC cI cZ cL) A (pvW D cD cC cI cL A σ n ad φ ca f) [.ref (ad 0), .int 11, .int a, .int b, .int e]) (va_Qi (fun (r : Int32) (_ : Unit) => r = pvT (sp_carry σ a b)) (fun _ t9 => (pvW D cD cC cI cL A (sp_carry σ a b).2.2 n ad φ ca f) t9.heap) A) rm_asks_11.cells rm_asks_11.slots A := by
  refine pv_enterW (own := RL) (by decide) rfl (Nat.le_of_ble_eq_true rfl) (fun p e9 s m args below meth cc9 Q B ht hret => ?_)
  refine j_iload_n B dL_asks_0 1 rfl rfl ?_
  refine j_if_ne B 13 dL_asks_1 (by decide) (fun h1 => ?_) (fun h1 => absurd h1 (by decide))
  refine j_iload_n B dL_asks_13 1 rfl rfl ?_
  refine j_iconst B (v := 1) dL_asks_14 (by decide) ?_
  refine j_icmp_ne B 35 dL_asks_15 (by decide) (fun h2 => ?_) (fun h2 => absurd h2 (by decide))
  refine j_iload_n B dL_asks_35 1 rfl rfl ?_
  refine j_iconst B (v := 2) dL_asks_36 (by decide) ?_
  refine j_icmp_ne B 49 dL_asks_37 (by decide) (fun h3 => ?_) (fun h3 => absurd h3 (by decide))
  refine j_iload_n B dL_asks_49 1 rfl rfl ?_
  refine j_iconst B (v := 3) dL_asks_50 (by decide) ?_
  refine j_icmp_ne B 62 dL_asks_51 (by decide) (fun h4 => ?_) (fun h4 => absurd h4 (by decide))
  refine j_iload_n B dL_asks_62 1 rfl rfl ?_
  refine j_iconst B (v := 4) dL_asks_63 (by decide) ?_
  refine j_icmp_ne B 78 dL_asks_64 (by decide) (fun h5 => ?_) (fun h5 => absurd h5 (by decide))
  refine j_iload_n B dL_asks_78 1 rfl rfl ?_
  refine j_iconst B (v := 5) dL_asks_79 (by decide) ?_
  refine j_icmp_ne B 92 dL_asks_80 (by decide) (fun h6 => ?_) (fun h6 => absurd h6 (by decide))
  refine j_iload_n B dL_asks_92 1 rfl rfl ?_
  refine j_bipush B (v := 6) dL_asks_93 (by decide) ?_
  refine j_icmp_ne B 117 dL_asks_95 (by decide) (fun h7 => ?_) (fun h7 => absurd h7 (by decide))
  refine j_iload_n B dL_asks_117 1 rfl rfl ?_
  refine j_bipush B (v := 7) dL_asks_118 (by decide) ?_
  refine j_icmp_ne B 131 dL_asks_120 (by decide) (fun h8 => ?_) (fun h8 => absurd h8 (by decide))
  refine j_iload_n B dL_asks_131 1 rfl rfl ?_
  refine j_bipush B (v := 8) dL_asks_132 (by decide) ?_
  refine j_icmp_ne B 145 dL_asks_134 (by decide) (fun h9 => ?_) (fun h9 => absurd h9 (by decide))
  refine j_iload_n B dL_asks_145 1 rfl rfl ?_
  refine j_bipush B (v := 9) dL_asks_146 (by decide) ?_
  refine j_icmp_ne B 159 dL_asks_148 (by decide) (fun h10 => ?_) (fun h10 => absurd h10 (by decide))
  refine j_iload_n B dL_asks_159 1 rfl rfl ?_
  refine j_bipush B (v := 10) dL_asks_160 (by decide) ?_
  refine j_icmp_ne B 174 dL_asks_162 (by decide) (fun h11 => ?_) (fun h11 => absurd h11 (by decide))
  refine j_iload_n B dL_asks_174 1 rfl rfl ?_
  refine j_bipush B (v := 11) dL_asks_175 (by decide) ?_
  refine j_icmp_ne B 189 dL_asks_177 (by decide) (fun h12 => absurd h12 (by decide)) (fun h12 => ?_)
  refine j_aload_n B dL_asks_180 0 rfl rfl ?_
  refine j_iload_n B dL_asks_181 2 rfl rfl ?_
  refine j_iload_n B dL_asks_182 3 rfl rfl ?_
  have hsc := sc_carry σ a b
  refine j_wVi B 2 [.int a, .int b] (Wd' := fun _ => pvW D cD cC cI cL A (sp_carry σ a b).2.2 n ad φ ca f) (WdX' := pvW D cD cC cI cL A σ n ad φ ca f) (c_X2_carry l hl D cD cC cI cZ cL (pvA A ca) σ n ad hG a b) rfl (fun H h => h.x) q_394 q_395 q_396 q_1 q_397 hdX2_carry rfl ⟨Nat.le_of_ble_eq_true rfl, Nat.le_of_ble_eq_true rfl⟩ (Nat.le_of_ble_eq_true rfl) dL_asks_183 rfl ⟨Nat.le_of_ble_eq_true rfl, Nat.le_of_ble_eq_true rfl⟩ (fun _ h => h.1) (fun H h q hq hA => h.new q hq hA) (fun H h => h.1) (fun H H1 u h h2 hz hk => h.cls h2 hk) (fun H H1 h h2 hz hk => h.cls h2 hk) (fun k hk => ?_) (fun r u hp => ?_)
  · obtain ⟨hk1, hk0⟩ := hk
    have hX : (sp_carry σ a b).2.2 = σ := hsc.2 (by rw [hk1]; exact hk0)
    have hcs : k = 2 ∨ k = 3 := by have := hsc.1; omega
    rcases hcs with rfl | rfl
    · refine ⟨200, ⟨[⟨0, 194, 195, 56⟩], ⟨0, 194, 200, 58⟩, [⟨0, 194, 205, 60⟩], pgEA, ht, (List.forall_mem_cons.mpr ⟨Or.inr ⟨by decide, pgES, B.2.2.2.2.1 _ q_308, pgB_nc B (pgEA, pgES) (by decide)⟩, (fun _ h => nomatch h)⟩), by decide, by decide, B.2.2.2.2.1 _ q_309, pgB_nw B (w := .castable pgEA pgEA) (by decide) rfl, rfl⟩, fun q9 => ?_⟩
      refine j_astore B (L' := [(5, .ref q9), (0, .ref (ad 0)), (1, .int 11), (2, .int a), (3, .int b), (4, .int e)]) dL_asks_200 (by decide) rfl ?_
      refine j_bipush B (v := (-9)) dL_asks_202 (by decide) ?_
      refine j_world (Wd' := pvW D cD cC cI cL A (sp_carry σ a b).2.2 n ad φ ca f) (fun H h => by rw [hX]; exact h) ?_
      exact hret 204 _ (-9) () _ _ dL_asks_204 rfl (Nat.le_of_ble_eq_true rfl) (Nat.le_of_ble_eq_true rfl) (by unfold pvT; rw [hk1] <;> rfl)
    · refine ⟨195, ⟨[], ⟨0, 194, 195, 56⟩, [⟨0, 194, 200, 58⟩, ⟨0, 194, 205, 60⟩], pgES, ht, (fun _ h => nomatch h), by decide, by decide, B.2.2.2.2.1 _ q_308, pgB_nw B (w := .castable pgES pgES) (by decide) rfl, rfl⟩, fun q9 => ?_⟩
      refine j_astore B (L' := [(5, .ref q9), (0, .ref (ad 0)), (1, .int 11), (2, .int a), (3, .int b), (4, .int e)]) dL_asks_195 (by decide) rfl ?_
      refine j_bipush B (v := (-8)) dL_asks_197 (by decide) ?_
      refine j_world (Wd' := pvW D cD cC cI cL A (sp_carry σ a b).2.2 n ad φ ca f) (fun H h => by rw [hX]; exact h) ?_
      exact hret 199 _ (-8) () _ _ dL_asks_199 rfl (Nat.le_of_ble_eq_true rfl) (Nat.le_of_ble_eq_true rfl) (by unfold pvT; rw [hk1] <;> rfl)
  · obtain ⟨h0, rfl⟩ := hp
    refine j_goto B 194 dL_asks_186 (by decide) ?_
    exact hret 194 _ _ () _ _ dL_asks_194 rfl (Nat.le_of_ble_eq_true rfl) (Nat.le_of_ble_eq_true rfl) (by unfold pvT; rw [if_pos h0])
abbrev rm_asks_12 : Room := { frames := 8, cells := 2, slots := 12, locals := 128 }
set_option maxHeartbeats 4000000 in
set_option maxRecDepth 100000 in
/-- asks: certify -/
theorem c_L_asks_12 (l : Launch) (hl : l.stackTraces = false) (D : va_G) (cD cC cI cZ cL : ClassId) (A : Nat → Prop) (σ φ : pgSt) (n : Nat) (ad ca : Nat → Nat) (f : Nat → Int64) (hG : pgI n σ) (a b e : Int32) (h1 : (sp_certify σ a).1 ≠ 1) : Met l yL_asks (.codeWith yL_asks cL_asks 6 (some .int) [(0, 194, 195, 56), (0, 194, 200, 58), (0, 194, 205, 60)] :: pgWd) rm_asks_12 (pgPc D (pgTys cD cC cI cZ cL) A (pvW D cD cC cI cL A σ n ad φ ca f) [.ref (ad 0), .int 12, .int a, .int b, .int e]) (va_Qi (fun (r : Int32) (_ : Unit) => r = pvT (sp_certify σ a)) (fun _ t9 => (pvW D cD cC cI cL A (sp_certify σ a).2.2 n ad φ ca f) t9.heap) A) rm_asks_12.cells rm_asks_12.slots A := by
  refine pv_enterW (own := RL) (by decide) rfl (Nat.le_of_ble_eq_true rfl) (fun p e9 s m args below meth cc9 Q B ht hret => ?_)
  refine j_iload_n B dL_asks_0 1 rfl rfl ?_
  refine j_if_ne B 13 dL_asks_1 (by decide) (fun h1 => ?_) (fun h1 => absurd h1 (by decide))
  refine j_iload_n B dL_asks_13 1 rfl rfl ?_
  refine j_iconst B (v := 1) dL_asks_14 (by decide) ?_
  refine j_icmp_ne B 35 dL_asks_15 (by decide) (fun h2 => ?_) (fun h2 => absurd h2 (by decide))
  refine j_iload_n B dL_asks_35 1 rfl rfl ?_
  refine j_iconst B (v := 2) dL_asks_36 (by decide) ?_
  refine j_icmp_ne B 49 dL_asks_37 (by decide) (fun h3 => ?_) (fun h3 => absurd h3 (by decide))
  refine j_iload_n B dL_asks_49 1 rfl rfl ?_
  refine j_iconst B (v := 3) dL_asks_50 (by decide) ?_
  refine j_icmp_ne B 62 dL_asks_51 (by decide) (fun h4 => ?_) (fun h4 => absurd h4 (by decide))
  refine j_iload_n B dL_asks_62 1 rfl rfl ?_
  refine j_iconst B (v := 4) dL_asks_63 (by decide) ?_
  refine j_icmp_ne B 78 dL_asks_64 (by decide) (fun h5 => ?_) (fun h5 => absurd h5 (by decide))
  refine j_iload_n B dL_asks_78 1 rfl rfl ?_
  refine j_iconst B (v := 5) dL_asks_79 (by decide) ?_
  refine j_icmp_ne B 92 dL_asks_80 (by decide) (fun h6 => ?_) (fun h6 => absurd h6 (by decide))
  refine j_iload_n B dL_asks_92 1 rfl rfl ?_
  refine j_bipush B (v := 6) dL_asks_93 (by decide) ?_
  refine j_icmp_ne B 117 dL_asks_95 (by decide) (fun h7 => ?_) (fun h7 => absurd h7 (by decide))
  refine j_iload_n B dL_asks_117 1 rfl rfl ?_
  refine j_bipush B (v := 7) dL_asks_118 (by decide) ?_
  refine j_icmp_ne B 131 dL_asks_120 (by decide) (fun h8 => ?_) (fun h8 => absurd h8 (by decide))
  refine j_iload_n B dL_asks_131 1 rfl rfl ?_
  refine j_bipush B (v := 8) dL_asks_132 (by decide) ?_
  refine j_icmp_ne B 145 dL_asks_134 (by decide) (fun h9 => ?_) (fun h9 => absurd h9 (by decide))
  refine j_iload_n B dL_asks_145 1 rfl rfl ?_
  refine j_bipush B (v := 9) dL_asks_146 (by decide) ?_
  refine j_icmp_ne B 159 dL_asks_148 (by decide) (fun h10 => ?_) (fun h10 => absurd h10 (by decide))
  refine j_iload_n B dL_asks_159 1 rfl rfl ?_
  refine j_bipush B (v := 10) dL_asks_160 (by decide) ?_
  refine j_icmp_ne B 174 dL_asks_162 (by decide) (fun h11 => ?_) (fun h11 => absurd h11 (by decide))
  refine j_iload_n B dL_asks_174 1 rfl rfl ?_
  refine j_bipush B (v := 11) dL_asks_175 (by decide) ?_
  refine j_icmp_ne B 189 dL_asks_177 (by decide) (fun h12 => ?_) (fun h12 => absurd h12 (by decide))
  refine j_aload_n B dL_asks_189 0 rfl rfl ?_
  refine j_iload_n B dL_asks_190 2 rfl rfl ?_
  have hsc := sc_certify σ a
  refine j_wVi B 1 [.int a] (Wd' := fun _ => pvW D cD cC cI cL A (sp_certify σ a).2.2 n ad φ ca f) (WdX' := pvW D cD cC cI cL A σ n ad φ ca f) (c_X2_certify l hl D cD cC cI cZ cL (pvA A ca) σ n ad hG a) rfl (fun H h => h.x) q_404 q_405 q_406 q_1 q_407 hdX2_certify rfl ⟨Nat.le_of_ble_eq_true rfl, Nat.le_of_ble_eq_true rfl⟩ (Nat.le_of_ble_eq_true rfl) dL_asks_191 rfl ⟨Nat.le_of_ble_eq_true rfl, Nat.le_of_ble_eq_true rfl⟩ (fun _ h => h.1) (fun H h q hq hA => h.new q hq hA) (fun H h => h.1) (fun H H1 u h h2 hz hk => h.cls h2 hk) (fun H H1 h h2 hz hk => h.cls h2 hk) (fun k hk => ?_) (fun r u hp => ?_)
  · obtain ⟨hk1, hk0⟩ := hk
    have hX : (sp_certify σ a).2.2 = σ := hsc.2 (by rw [hk1]; exact hk0)
    have hcs : k = 4 := by have := hsc.1; omega
    rcases hcs with rfl
    · refine ⟨205, ⟨[⟨0, 194, 195, 56⟩, ⟨0, 194, 200, 58⟩], ⟨0, 194, 205, 60⟩, [], pgEN, ht, (List.forall_mem_cons.mpr ⟨Or.inr ⟨by decide, pgES, B.2.2.2.2.1 _ q_308, pgB_nc B (pgEN, pgES) (by decide)⟩, (List.forall_mem_cons.mpr ⟨Or.inr ⟨by decide, pgEA, B.2.2.2.2.1 _ q_309, pgB_nc B (pgEN, pgEA) (by decide)⟩, (fun _ h => nomatch h)⟩)⟩), by decide, by decide, B.2.2.2.2.1 _ q_310, pgB_nw B (w := .castable pgEN pgEN) (by decide) rfl, rfl⟩, fun q9 => ?_⟩
      refine j_astore B (L' := [(5, .ref q9), (0, .ref (ad 0)), (1, .int 12), (2, .int a), (3, .int b), (4, .int e)]) dL_asks_205 (by decide) rfl ?_
      refine j_bipush B (v := (-10)) dL_asks_207 (by decide) ?_
      refine j_world (Wd' := pvW D cD cC cI cL A (sp_certify σ a).2.2 n ad φ ca f) (fun H h => by rw [hX]; exact h) ?_
      exact hret 209 _ (-10) () _ _ dL_asks_209 rfl (Nat.le_of_ble_eq_true rfl) (Nat.le_of_ble_eq_true rfl) (by unfold pvT; rw [hk1] <;> rfl)
  · obtain ⟨h0, rfl⟩ := hp
    exact hret 194 _ _ () _ _ dL_asks_194 rfl (Nat.le_of_ble_eq_true rfl) (Nat.le_of_ble_eq_true rfl) (by unfold pvT; rw [if_pos h0])
end
section
/-! what every call keeps of the state -/
theorem pg_nm2 {k : Nat} (h : k < 2 ^ 31) : nI k ≠ -1 := fun z => nI_pos h (by rw [z]; decide)
section PGP
variable {n : Nat} {σ : pgSt} {d c k to t w g way secr kind keeper : Int32}
theorem pgI_u (h : pgI n σ) {t i : Nat} {v : Int32} (ht : t = 6 ∨ t = 7 ∨ t = 9 ∨ t = 10 ∨ t = 12 ∨ t = 0 ∨ t = 1 ∨ (t = 13 ∧ (i = 2 ∨ i = 3 ∨ i = 4)) ∨ ((t = 4 ∨ t = 5 ∨ t = 8) ∧ i < n) ∨ (t = 3 ∧ (v = -1 ∨ ∃ c, c < 10 ∧ v = nI c)) ∨ (t = 11 ∧ v = -1)) : pgI n (pgU σ t i v) := by
  obtain ⟨h1, h2, h3, ⟨K, k1, k2, k3⟩, h5, h6⟩ := h
  refine ⟨h1, ?_, fun j hj => ?_, ⟨K, k1, ?_, fun c hc => ?_⟩, fun j hj => ?_, fun j hj => ?_⟩
  · simp only [pgU]; grind (splits := 40)
  · have := h3 j hj
    simp only [pgU]; grind (splits := 40)
  · simp only [pgU]; grind (splits := 40)
  · have := k3 c hc
    simp only [pgU]; grind (splits := 40)
  · have := h5 j hj
    simp only [pgU]; grind (splits := 40)
  · have := h6 j hj
    simp only [pgU]; grind (splits := 40)
theorem pgI_ho (h : pgI n σ) {j : Nat} : pgI n (pgHo σ j to) := by
  obtain ⟨h1, h2, h3, ⟨K, k1, k2, k3⟩, h5, h6⟩ := h
  refine ⟨h1, ?_, fun j hj => ?_, ⟨K, k1, ?_, fun c hc => ?_⟩, fun j hj => ?_, fun j hj => ?_⟩
  · simp only [pgHo, pgU]; grind (splits := 40)
  · have := h3 j hj
    simp only [pgHo, pgU]; grind (splits := 40)
  · simp only [pgHo, pgU]; grind (splits := 40)
  · have := k3 c hc
    simp only [pgHo, pgU]; grind (splits := 40)
  · have := h5 j hj
    simp only [pgHo, pgU]; grind (splits := 40)
  · have := h6 j hj
    simp only [pgHo, pgU]; grind (splits := 40)
theorem pgI_hoN (h : pgI n σ) {k : Nat} : pgI n (pgHoN σ c to k) := by
  obtain ⟨h1, h2, h3, ⟨K, k1, k2, k3⟩, h5, h6⟩ := h
  refine ⟨h1, ?_, fun j hj => ?_, ⟨K, k1, ?_, fun c hc => ?_⟩, fun j hj => ?_, fun j hj => ?_⟩
  · simp only [pgHoN]; grind (splits := 40)
  · have := h3 j hj
    simp only [pgHoN]; grind (splits := 40)
  · simp only [pgHoN]; grind (splits := 40)
  · have := k3 c hc
    simp only [pgHoN]; grind (splits := 40)
  · have := h5 j hj
    simp only [pgHoN]; grind (splits := 40)
  · have := h6 j hj
    simp only [pgHoN]; grind (splits := 40)
theorem pgI_ce (h : pgI n σ) {v : Int32} {i : Nat} : pgI n (pgCe σ k v i) := by
  obtain ⟨h1, h2, h3, ⟨K, k1, k2, k3⟩, h5, h6⟩ := h
  refine ⟨h1, ?_, fun j hj => ?_, ⟨K, k1, ?_, fun c hc => ?_⟩, fun j hj => ?_, fun j hj => ?_⟩
  · simp only [pgCe]; grind (splits := 40)
  · have := h3 j hj
    simp only [pgCe]; grind (splits := 40)
  · simp only [pgCe]; grind (splits := 40)
  · have := k3 c hc
    simp only [pgCe]; grind (splits := 40)
  · have := h5 j hj
    simp only [pgCe]; grind (splits := 40)
  · have := h6 j hj
    simp only [pgCe]; grind (splits := 40)
end PGP
section PV22
variable {n j k c w q : Nat} {σ τ φ ψ : pgSt} {m m2 : Int64} {Bd : Nat}
theorem pvE_u {t i : Nat} {v : Int32} (hi : i ≠ j) : pvE (pgU σ t j v) i = pvE σ i := pvE_congr (pgU_nj hi) (pgU_nj hi) (pgU_nj hi) (pgU_nj hi) (pgU_nj hi) (pgU_nj hi)
theorem pvE_t {t i a : Nat} {v : Int32} (h : t ≠ 2 ∧ t ≠ 3 ∧ t ≠ 4 ∧ t ≠ 6 ∧ t ≠ 8 ∧ t ≠ 9) : pvE (pgU σ t a v) i = pvE σ i := pvE_congr (pgU_ne h.1.symm) (pgU_ne h.2.1.symm) (pgU_ne h.2.2.1.symm) (pgU_ne h.2.2.2.1.symm) (pgU_ne h.2.2.2.2.1.symm) (pgU_ne h.2.2.2.2.2.symm)
theorem pvD_congr {i : Nat} (h : pvD σ φ i) (ht : ∀ t, t < 8 → τ t i = σ t i) (h10 : ∀ a, τ 10 a = σ 10 a) (h2 : ψ 2 i = φ 2 i) (h4 : ψ 4 i = φ 4 i) : pvD τ ψ i := by
  unfold pvD at *
  rw [ht 0 (by omega), ht 1 (by omega), ht 2 (by omega), ht 3 (by omega), ht 4 (by omega), ht 5 (by omega), ht 6 (by omega), ht 7 (by omega), h10, h2, h4]
  exact h
/-- one disk changes -/
theorem pvI_one (h : pvI n σ φ m Bd) (hj : j < n) (g : pgI n τ) (hN : pvN n τ ψ) (ho : ∀ i, i ≠ j → ∀ t, t < 8 → τ t i = σ t i) (h9 : ∀ a, τ 9 a = σ 9 a) (h10 : ∀ a, τ 10 a = σ 10 a) (h12 : ∀ a, τ 12 a = σ 12 a) (h134 : τ 13 4 = σ 13 4) (p2 : ∀ a, ψ 2 a = φ 2 a) (p3 : ∀ a, ψ 3 a = φ 3 a) (p4 : ∀ i, i ≠ j → ψ 4 i = φ 4 i) (hd : pvD τ ψ j) (hm : ∀ i, i < 64 → (pvB m2 i ↔ τ 5 i ≠ 0)) : pvI n τ ψ m2 Bd := by
  obtain ⟨i1, i2, i3, i4, i5, ⟨C, c1, c2, c3⟩, i7⟩ := h
  refine ⟨g, hN, fun i hi => ?_, fun i hi hi2 => ?_, fun a ha => ?_, ⟨C, c1, h134.trans c2, fun i hi => by rw [h9]; exact c3 i hi⟩, hm⟩
  · by_cases e : i = j
    · rw [e]; exact hd
    · exact pvD_congr (i3 i hi) (ho i e) h10 (p2 i) (p4 i e)
  · rw [p4 i (by omega)]; exact i4 i hi hi2
  · have := i5 a ha
    unfold pvK at *
    rw [h10, p3, h12]
    exact this
/-- crates and counts change, no disk does -/
theorem pvI_cr (h : pvI n σ φ m Bd) (g : pgI n τ) (hN : pvN n τ ψ) (ho : ∀ t, t < 8 → ∀ i, τ t i = σ t i) (h9 : ∀ a, τ 9 a = σ 9 a) (h10 : ∀ a, τ 10 a = σ 10 a) (hk : ∀ a, a < 10 → pvK τ ψ a) (h134 : τ 13 4 = σ 13 4) (p2 : ∀ a, ψ 2 a = φ 2 a) (p4 : ∀ i, ψ 4 i = φ 4 i) : pvI n τ ψ m Bd := by
  obtain ⟨i1, i2, i3, i4, i5, ⟨C, c1, c2, c3⟩, i7⟩ := h
  refine ⟨g, hN, fun i hi => pvD_congr (i3 i hi) (fun t ht => ho t ht i) h10 (p2 i) (p4 i), fun i hi hi2 => ?_, hk, ⟨C, c1, h134.trans c2, fun i hi => by rw [h9]; exact c3 i hi⟩, fun i hi => ?_⟩
  · rw [p4]; exact i4 i hi hi2
  · rw [ho 5 (by omega)]; exact i7 i hi
theorem pvI_le {Bd2 : Nat} (h : pvI n σ φ m Bd) (hb : Bd ≤ Bd2) : pvI n σ φ m Bd2 := by
  obtain ⟨i1, i2, i3, i4, i5, ⟨C, c1, c2⟩, i7⟩ := h
  exact ⟨i1, i2, i3, i4, i5, ⟨C, by omega, c2⟩, i7⟩
theorem pvI_add0 {i : Nat} (h : pvI n σ φ m Bd) : pvI n σ (pgU φ 0 i (φ 0 i + 0)) m Bd := by
  rw [pgU_same (Int32.add_zero _).symm]
  exact h
theorem pvI_same {t i : Nat} (h : pvI n σ φ m Bd) : pvI n σ (pgU φ t i (φ t i)) m Bd := by
  rw [pgU_same rfl]
  exact h
theorem pv_j64 (h : pvI n σ φ m Bd) (hj : j < n) : j < 64 := by have := h.1.1; omega
theorem pv_shut {v : Int32} (h : σ 3 j = -1) : ¬ pgShut σ j := fun z => z.1 h
theorem pv_loose : (pgReach σ j ∧ σ 3 j = -1) ↔ pgLoose σ j := ⟨fun h => ⟨h.1.1, h.1.2.1, h.2⟩, fun h => ⟨⟨h.1, h.2.1, fun z => z.1 h.2.2⟩, h.2.2⟩⟩
theorem pv_offer (h : pvI n σ φ m Bd) (hj : j < n) (hk : k < 8) : ∃ t τ, pvT (sp_offer σ (nI j) (nI k)) = t ∧ (sp_offer σ (nI j) (nI k)).2.2 = τ ∧ (sp_offer σ (nI j) (nI k)).1 ≠ 1 ∧ pvI n τ φ m Bd ∧ (∀ i, i ≠ j → pvE τ i = pvE σ i) ∧ τ 2 j = σ 2 j ∧ (nI k = σ 2 j → t = -9 ∧ ∀ i, pvE τ i = pvE σ i) ∧ (nI k ≠ σ 2 j → (pgReach σ j ∧ σ 3 j = -1) → t = σ 2 j ∧ τ 6 j = nI k) ∧ (nI k ≠ σ 2 j → ¬ (pgReach σ j ∧ σ 3 j = -1) → t = -8 ∧ τ 6 j = σ 6 j) := by
  obtain ⟨hd, hx⟩ := pv_isD h.1 hj
  have hK := pv_isK hk
  have hD := h.2.2.1 j hj
  rw [pv_loose]
  unfold sp_offer
  rw [if_neg (fun z => z ⟨hd, hK⟩), hx]
  by_cases c1 : nI k = σ 2 j
  · rw [if_pos c1]
    exact ⟨-9, σ, rfl, rfl, by simp, h, fun _ _ => rfl, rfl, fun _ => ⟨rfl, fun _ => rfl⟩, fun z => absurd c1 z, fun z => absurd c1 z⟩
  rw [if_neg c1]
  by_cases c2 : pgLoose σ j
  · rw [if_neg (fun z => z c2)]
    refine ⟨σ 2 j, pgU σ 6 j (nI k), rfl, rfl, by simp, ?_, fun i hi => pvE_u hi, by simp [pgU], fun z => absurd z c1, fun _ _ => ⟨rfl, pgU_self⟩, fun _ z => absurd c2 z⟩
    refine pvI_one h hj (pgI_u h.1 (by omega)) ?_ (fun i hi t _ => pgU_nj hi) (fun a => by simp [pgU]) (fun a => by simp [pgU]) (fun a => by simp [pgU]) (by simp [pgU]) (fun a => rfl) (fun a => rfl) (fun i _ => rfl) ?_ (fun i hi => by simpa [pgU] using h.2.2.2.2.2.2 i hi)
    · simpa [pvN, pgU] using h.2.1
    · obtain ⟨d1, d2, d3, d4, d5, d6⟩ := hD
      refine ⟨?_, ?_, ?_, ?_, ?_, ?_⟩
      · simpa [pgU] using d1
      · left; simpa [pgU] using c2.2.2
      · right
        rw [pgU_self]
        exact ⟨⟨k, hk, rfl⟩, by simpa [pgU] using c1, by simpa [pgU] using c2.1⟩
      · simpa [pgU] using d4
      · simpa [pgU] using d5
      · simpa [pgU] using d6
  · rw [if_pos c2]
    exact ⟨-8, σ, rfl, rfl, by simp, h, fun _ _ => rfl, rfl, fun z => absurd z c1, fun _ z => absurd z c2, fun _ _ => ⟨rfl, rfl⟩⟩
theorem pv_answer1 (h : pvI n σ φ m Bd) (hj : j < n) (hf : σ 6 j ≠ -1) : ∃ t τ, pvT (sp_answer σ (nI j) 1) = t ∧ (sp_answer σ (nI j) 1).2.2 = τ ∧ (sp_answer σ (nI j) 1).1 ≠ 1 ∧ pgI n τ ∧ pvI n τ (pgU φ 0 1 (φ 0 1 + 1)) m Bd ∧ (∀ i, i ≠ j → pvE τ i = pvE σ i) ∧ t = σ 6 j ∧ τ 2 j = σ 6 j ∧ τ 6 j = -1 := by
  obtain ⟨hd, hx⟩ := pv_isD h.1 hj
  have hD := h.2.2.1 j hj
  obtain ⟨d1, d2, d3, d4, d5, d6⟩ := hD
  have d3 := d3.resolve_left hf
  have hc : σ 3 j = -1 := by
    rcases d2 with z | z
    · exact z
    · exact absurd z.2 hf
  unfold sp_answer
  rw [if_neg (fun z => z hd), hx, if_neg (fun z => z.elim (fun z => z d3.2.2) (fun z => hf z)), if_neg (by decide)]
  have g : pgI n (pgHo (pgU σ 6 j (-1)) j (σ 6 j)) := pgI_ho (pgI_u h.1 (by omega))
  refine ⟨σ 6 j, pgHo (pgU σ 6 j (-1)) j (σ 6 j), rfl, rfl, by simp, g, ?_, fun i hi => ?_, rfl, by simp [pgU], by simp [pgU]⟩
  · refine pvI_one h hj g ?_ (fun i hi t ht => by simp [pgU, hi]; omega) (fun a => by simp [pgU]) (fun a => by simp [pgU]) (fun a => by simp [pgU]) (by simp [pgU]) (fun a => by simp [pgU]) (fun a => by simp [pgU]) (fun i _ => by simp [pgU]) ?_ (fun i hi => by simpa [pgU] using h.2.2.2.2.2.2 i hi)
    · obtain ⟨n1, n2, n3, n4, n5⟩ := h.2.1
      refine ⟨by simp [pgU, n1], by simp [pgU, n2], by simp [pgU, n3], by simp [pgU, n4], by simp [pgU, n5]⟩
    · refine ⟨?_, ?_, ?_, ?_, ?_, ?_⟩
      · simpa [pgU] using d3.1
      · left; simpa [pgU] using hc
      · left; simp [pgU]
      · simpa [pgU] using d4
      · simpa [pgU] using d5
      · simpa [pgU] using d6
  · exact pvE_congr (by simp [pgU, hi]) (by simp [pgU]) (by simp [pgU]) (by simp [pgU, hi]) (by simp [pgU]) (by simp [pgU])
theorem pv_answer0 (h : pvI n σ φ m Bd) (hj : j < n) (hf : σ 6 j ≠ -1) : ∃ t τ, pvT (sp_answer σ (nI j) 0) = t ∧ (sp_answer σ (nI j) 0).2.2 = τ ∧ (sp_answer σ (nI j) 0).1 ≠ 1 ∧ pgI n τ ∧ pvI n τ (pgU φ 0 1 (φ 0 1 + 0)) m Bd ∧ (∀ i, i ≠ j → pvE τ i = pvE σ i) ∧ t = σ 2 j ∧ τ 2 j = σ 2 j ∧ τ 6 j = -1 := by
  obtain ⟨hd, hx⟩ := pv_isD h.1 hj
  obtain ⟨d1, d2, d3, d4, d5, d6⟩ := h.2.2.1 j hj
  have d3 := d3.resolve_left hf
  have hc : σ 3 j = -1 := by
    rcases d2 with z | z
    · exact z
    · exact absurd z.2 hf
  unfold sp_answer
  rw [if_neg (fun z => z hd), hx, if_neg (fun z => z.elim (fun z => z d3.2.2) (fun z => hf z)), if_pos rfl]
  have g : pgI n (pgU σ 6 j (-1)) := pgI_u h.1 (by omega)
  refine ⟨σ 2 j, pgU σ 6 j (-1), rfl, rfl, by simp, g, pvI_add0 ?_, fun i hi => pvE_u hi, rfl, by simp [pgU], by simp [pgU]⟩
  refine pvI_one h hj g ?_ (fun i hi t ht => by simp [pgU, hi]) (fun a => by simp [pgU]) (fun a => by simp [pgU]) (fun a => by simp [pgU]) (by simp [pgU]) (fun a => rfl) (fun a => rfl) (fun i _ => rfl) ?_ (fun i hi => by simpa [pgU] using h.2.2.2.2.2.2 i hi)
  · simpa [pvN, pgU] using h.2.1
  · refine ⟨?_, ?_, ?_, ?_, ?_, ?_⟩
    · simpa [pgU] using d1
    · left; simpa [pgU] using hc
    · left; simp [pgU]
    · simpa [pgU] using d4
    · simpa [pgU] using d5
    · simpa [pgU] using d6
theorem pvN_one {P P2 : Nat → Bool} {k : Nat} (hj : j < k) (ho : ∀ i, i ≠ j → P2 i = P i) (h1 : P j = false) (h2 : P2 j = true) : pgN P2 k = pgN P k + 1 := by
  induction k with
  | zero => omega
  | succ k ih =>
    unfold pgN
    by_cases e : j = k
    · subst e
      rw [h1, h2, pgN_congr (P := P2) (P2 := P) (fun i hi => ho i (by omega))]
      simp
    · rw [ih (by omega), ho k (fun z => e z.symm)]
      omega
theorem pv_pack (h : pvI n σ φ m Bd) (hj : j < n) (hc : c < 10) : ∃ t τ, pvT (sp_pack σ (nI j) (nI c)) = t ∧ (sp_pack σ (nI j) (nI c)).2.2 = τ ∧ (sp_pack σ (nI j) (nI c)).1 ≠ 1 ∧ pvI n τ φ m Bd ∧ (∀ i, i ≠ j → pvE τ i = pvE σ i) ∧ ((pgReach σ j ∧ σ 3 j = -1 ∧ σ 11 c = -1 ∧ σ 10 c = σ 2 j) → t = pgCnt σ n (nI c) + 1 ∧ τ 3 j = nI c) ∧ (¬ (pgReach σ j ∧ σ 3 j = -1 ∧ σ 11 c = -1 ∧ σ 10 c = σ 2 j) → t = -8 ∧ τ 3 j = σ 3 j) := by
  obtain ⟨hd, hx⟩ := pv_isD h.1 hj
  obtain ⟨hC, hy⟩ := pv_isC hc
  obtain ⟨d1, d2, d3, d4, d5, d6⟩ := h.2.2.1 j hj
  have hl : (pgReach σ j ∧ σ 3 j = -1 ∧ σ 11 c = -1 ∧ σ 10 c = σ 2 j) ↔ (pgLoose σ j ∧ σ 11 c = -1 ∧ σ 10 c = σ 2 j) := by
    rw [← and_assoc, pv_loose]
  rw [hl]
  unfold sp_pack
  rw [if_neg (fun z => z ⟨hd, hC⟩), hx, hy]
  by_cases c2 : pgLoose σ j ∧ σ 11 c = -1 ∧ σ 10 c = σ 2 j
  · rw [if_neg (fun z => z c2)]
    have g : pgI n (pgU σ 3 j (nI c)) := pgI_u h.1 (Or.inr (Or.inr (Or.inr (Or.inr (Or.inr (Or.inr (Or.inr (Or.inr (Or.inr (Or.inl ⟨rfl, Or.inr ⟨c, hc, rfl⟩⟩))))))))))
    refine ⟨pgCnt (pgU σ 3 j (nI c)) (ix (σ 13 0)) (nI c), pgU σ 3 j (nI c), rfl, rfl, by simp, ?_, fun i hi => pvE_u hi, fun _ => ⟨?_, pgU_self⟩, fun z => absurd c2 z⟩
    · refine pvI_one h hj g ?_ (fun i hi t ht => by simp [pgU, hi]) (fun a => by simp [pgU]) (fun a => by simp [pgU]) (fun a => by simp [pgU]) (by simp [pgU]) (fun a => rfl) (fun a => rfl) (fun i _ => rfl) ?_ (fun i hi => by simpa [pgU] using h.2.2.2.2.2.2 i hi)
      · simpa [pvN, pgU] using h.2.1
      · refine ⟨?_, ?_, ?_, ?_, ?_, ?_⟩
        · simpa [pgU] using d1
        · right
          rw [pgU_self, hy]
          simpa [pgU] using ⟨c2.2.2, c2.1.2.1⟩
        · left; simpa [pgU] using c2.1.2.1
        · simpa [pgU] using d4
        · simpa [pgU] using d5
        · simpa [pgU] using d6
    · show pgCnt _ _ _ = _
      unfold pgCnt
      rw [pgI_n h.1, nI_1]
      refine congrArg nI (pvN_one (j := j) hj (fun i hi => ?_) ?_ ?_)
      · simp [pgU, hi]
      · have : σ 3 j ≠ nI c := by rw [c2.1.2.2]; exact fun z => pv_nm1 (by omega) z.symm
        simpa using this
      · simp [pgU]
  · rw [if_pos c2]
    exact ⟨-8, σ, rfl, rfl, by simp, h, fun _ _ => rfl, fun z => absurd z c2, fun _ => ⟨rfl, rfl⟩⟩
theorem pv_unpack (h : pvI n σ φ m Bd) (hj : j < n) : ∃ t τ, pvT (sp_unpack σ (nI j)) = t ∧ (sp_unpack σ (nI j)).2.2 = τ ∧ (sp_unpack σ (nI j)).1 ≠ 1 ∧ pvI n τ φ m Bd ∧ (∀ i, i ≠ j → pvE τ i = pvE σ i) ∧ ((σ 3 j ≠ -1 ∧ σ 5 j = 0 ∧ ¬ pgShut σ j) → t = σ 3 j ∧ τ 3 j = -1) ∧ (¬ (σ 3 j ≠ -1 ∧ σ 5 j = 0 ∧ ¬ pgShut σ j) → t = -8 ∧ τ 3 j = σ 3 j) := by
  obtain ⟨hd, hx⟩ := pv_isD h.1 hj
  obtain ⟨d1, d2, d3, d4, d5, d6⟩ := h.2.2.1 j hj
  unfold sp_unpack
  rw [if_neg (fun z => z hd), hx]
  by_cases c2 : σ 5 j ≠ 0 ∨ σ 3 j = -1 ∨ σ 11 (ix (σ 3 j)) ≠ -1
  · rw [if_pos c2]
    refine ⟨-8, σ, rfl, rfl, by simp, h, fun _ _ => rfl, fun z => absurd c2 ?_, fun _ => ⟨rfl, rfl⟩⟩
    simp only [pgShut] at z
    grind
  · rw [if_neg c2]
    have g : pgI n (pgU σ 3 j (-1)) := pgI_u h.1 (Or.inr (Or.inr (Or.inr (Or.inr (Or.inr (Or.inr (Or.inr (Or.inr (Or.inr (Or.inl ⟨rfl, Or.inl rfl⟩))))))))))
    refine ⟨σ 3 j, pgU σ 3 j (-1), rfl, rfl, by simp, ?_, fun i hi => pvE_u hi, fun _ => ⟨rfl, pgU_self⟩, fun z => absurd ?_ z⟩
    · refine pvI_one h hj g ?_ (fun i hi t ht => by simp [pgU, hi]) (fun a => by simp [pgU]) (fun a => by simp [pgU]) (fun a => by simp [pgU]) (by simp [pgU]) (fun a => rfl) (fun a => rfl) (fun i _ => rfl) ?_ (fun i hi => by simpa [pgU] using h.2.2.2.2.2.2 i hi)
      · simpa [pvN, pgU] using h.2.1
      · refine ⟨?_, ?_, ?_, ?_, ?_, ?_⟩
        · simpa [pgU] using d1
        · left; simp [pgU]
        · simpa [pgU] using d3
        · simpa [pgU] using d4
        · simpa [pgU] using d5
        · simpa [pgU] using d6
    · simp only [pgShut]
      grind
end PV22
end
section
section PV23
variable {n j k c w q : Nat} {σ τ φ ψ : pgSt} {m m2 : Int64} {Bd : Nat}
theorem pv_wipe (h : pvI n σ φ m Bd) (hj : j < n) (hw : w < 3) (hk : k < 8) : ∃ t τ, pvT (sp_wipe σ (nI j) (nI w) (nI k)) = t ∧ (sp_wipe σ (nI j) (nI w) (nI k)).2.2 = τ ∧ (sp_wipe σ (nI j) (nI w) (nI k)).1 ≠ 1 ∧ pgI n τ ∧ (∀ i, i ≠ j → pvE τ i = pvE σ i) ∧
    (nI k = σ 2 j → t = -9 ∧ (∀ i, pvE τ i = pvE σ i) ∧ pvI n τ φ m Bd) ∧
    (nI k ≠ σ 2 j → (pgReach σ j ∧ σ 4 j ≠ 1 ∧ σ 4 j ≠ 3) → (nI w = σ 0 j ∧ σ 1 j < 3) → t = 1 ∧ τ 4 j = 1 ∧ ¬ pgFin τ j ∧ pvI n τ (pgU φ 4 j (σ 2 j)) m Bd) ∧
    (nI k ≠ σ 2 j → (pgReach σ j ∧ σ 4 j ≠ 1 ∧ σ 4 j ≠ 3) → ¬ (nI w = σ 0 j ∧ σ 1 j < 3) → t = 2 ∧ τ 4 j = 2 ∧ ¬ pgFin τ j ∧ pvI n τ (pgU φ 4 j (σ 2 j)) m Bd) ∧
    (nI k ≠ σ 2 j → ¬ (pgReach σ j ∧ σ 4 j ≠ 1 ∧ σ 4 j ≠ 3) → t = -8 ∧ τ 4 j = σ 4 j ∧ (pgFin τ j ↔ pgFin σ j) ∧ pvI n τ (pgU φ 4 j (φ 4 j)) m Bd) := by
  obtain ⟨hd, hx⟩ := pv_isD h.1 hj
  have hK := pv_isK hk
  obtain ⟨d1, d2, d3, d4, d5, d6⟩ := h.2.2.1 j hj
  have hW : 0 ≤ nI w ∧ nI w < 3 := ⟨nI_pos' (by omega), nI_lt (b := 3) hw (by omega)⟩
  unfold sp_wipe
  rw [if_neg (fun z => z ⟨hd, hK⟩), hx]
  by_cases c1 : nI k = σ 2 j
  · rw [if_pos (Or.inr c1)]
    exact ⟨-9, σ, rfl, rfl, by simp, h.1, fun _ _ => rfl, fun _ => ⟨rfl, fun _ => rfl, h⟩, fun z => absurd c1 z, fun z => absurd c1 z, fun z => absurd c1 z⟩
  rw [if_neg (fun z => z.elim (fun z => z hW) c1)]
  by_cases c2 : ¬ pgReach σ j ∨ σ 4 j = 1 ∨ σ 4 j = 3
  · rw [if_pos c2]
    exact ⟨-8, σ, rfl, rfl, by simp, h.1, fun _ _ => rfl, fun z => absurd z c1, fun _ z => absurd c2 (by grind), fun _ z => absurd c2 (by grind), fun _ _ => ⟨rfl, rfl, Iff.rfl, pvI_same h⟩⟩
  · rw [if_neg c2]
    by_cases c3 : nI w = σ 0 j ∧ σ 1 j < 3
    · rw [if_pos c3]
      have g : pgI n (pgU (pgU (pgU σ 4 j 1) 7 j (σ 2 j)) 8 j 0) := pgI_u (pgI_u (pgI_u h.1 (by omega)) (by omega)) (by omega)
      have hT : pvI n (pgU (pgU (pgU σ 4 j 1) 7 j (σ 2 j)) 8 j 0) (pgU φ 4 j (σ 2 j)) m Bd := by
        refine pvI_one h hj g ?_ (fun i hi t ht => by simp [pgU, hi]) (fun a => by simp [pgU]) (fun a => by simp [pgU]) (fun a => by simp [pgU]) (by simp [pgU]) (fun a => by simp [pgU]) (fun a => by simp [pgU]) (fun i hi => by simp [pgU, hi]) ?_ (fun i hi => by simpa [pgU] using h.2.2.2.2.2.2 i hi)
        · simpa [pvN, pgU] using h.2.1
        · refine ⟨?_, ?_, ?_, ?_, ?_, ?_⟩
          · simpa [pgU] using d1
          · simpa [pgU] using d2
          · simpa [pgU] using d3
          · simp [pgU]
          · simpa [pgU] using d5
          · simp [pgU]
      refine ⟨1, pgU (pgU (pgU σ 4 j 1) 7 j (σ 2 j)) 8 j 0, rfl, rfl, by simp, g, fun i hi => pvE_congr (by simp [pgU, hi]) (by simp [pgU, hi]) (by simp [pgU, hi]) (by simp [pgU, hi]) (by simp [pgU, hi]) (by simp [pgU, hi]), fun z => absurd z c1, fun _ _ _ => ⟨rfl, by simp [pgU], by simp [pgU, pgFin], hT⟩, fun _ _ z => absurd c3 z, fun _ z => absurd ⟨Classical.not_not.mp (fun z2 => c2 (Or.inl z2)), fun z2 => c2 (Or.inr (Or.inl z2)), fun z2 => c2 (Or.inr (Or.inr z2))⟩ z⟩
    · rw [if_neg c3]
      have g : pgI n (pgU (pgU (pgU σ 4 j 2) 7 j (σ 2 j)) 8 j 0) := pgI_u (pgI_u (pgI_u h.1 (by omega)) (by omega)) (by omega)
      have hT : pvI n (pgU (pgU (pgU σ 4 j 2) 7 j (σ 2 j)) 8 j 0) (pgU φ 4 j (σ 2 j)) m Bd := by
        refine pvI_one h hj g ?_ (fun i hi t ht => by simp [pgU, hi]) (fun a => by simp [pgU]) (fun a => by simp [pgU]) (fun a => by simp [pgU]) (by simp [pgU]) (fun a => by simp [pgU]) (fun a => by simp [pgU]) (fun i hi => by simp [pgU, hi]) ?_ (fun i hi => by simpa [pgU] using h.2.2.2.2.2.2 i hi)
        · simpa [pvN, pgU] using h.2.1
        · refine ⟨?_, ?_, ?_, ?_, ?_, ?_⟩
          · simpa [pgU] using d1
          · simpa [pgU] using d2
          · simpa [pgU] using d3
          · simp [pgU]
          · simpa [pgU] using d5
          · simp [pgU]
      refine ⟨2, pgU (pgU (pgU σ 4 j 2) 7 j (σ 2 j)) 8 j 0, rfl, rfl, by simp, g, fun i hi => pvE_congr (by simp [pgU, hi]) (by simp [pgU, hi]) (by simp [pgU, hi]) (by simp [pgU, hi]) (by simp [pgU, hi]) (by simp [pgU, hi]), fun z => absurd z c1, fun _ _ z => absurd z c3, fun _ _ _ => ⟨rfl, by simp [pgU], by simp [pgU, pgFin], hT⟩, fun _ z => absurd ⟨Classical.not_not.mp (fun z2 => c2 (Or.inl z2)), fun z2 => c2 (Or.inr (Or.inl z2)), fun z2 => c2 (Or.inr (Or.inr z2))⟩ z⟩
theorem pv_smash (h : pvI n σ φ m Bd) (hj : j < n) (hk : k < 8) : ∃ t τ, pvT (sp_smash σ (nI j) (nI k)) = t ∧ (sp_smash σ (nI j) (nI k)).2.2 = τ ∧ (sp_smash σ (nI j) (nI k)).1 ≠ 1 ∧ pvI n τ φ m Bd ∧ (∀ i, i ≠ j → pvE τ i = pvE σ i) ∧
    (nI k = σ 2 j → t = -9 ∧ (∀ i, pvE τ i = pvE σ i)) ∧
    (nI k ≠ σ 2 j → (pgReach σ j ∧ σ 4 j ≠ 3) → t = σ 4 j ∧ τ 4 j = 3 ∧ pgFin τ j) ∧
    (nI k ≠ σ 2 j → ¬ (pgReach σ j ∧ σ 4 j ≠ 3) → t = -8 ∧ τ 4 j = σ 4 j ∧ (pgFin τ j ↔ pgFin σ j)) := by
  obtain ⟨hd, hx⟩ := pv_isD h.1 hj
  have hK := pv_isK hk
  obtain ⟨d1, d2, d3, d4, d5, d6⟩ := h.2.2.1 j hj
  unfold sp_smash
  rw [if_neg (fun z => z ⟨hd, hK⟩), hx]
  by_cases c1 : nI k = σ 2 j
  · rw [if_pos c1]
    exact ⟨-9, σ, rfl, rfl, by simp, h, fun _ _ => rfl, fun _ => ⟨rfl, fun _ => rfl⟩, fun z => absurd c1 z, fun z => absurd c1 z⟩
  rw [if_neg c1]
  by_cases c2 : ¬ pgReach σ j ∨ σ 4 j = 3
  · rw [if_pos c2]
    exact ⟨-8, σ, rfl, rfl, by simp, h, fun _ _ => rfl, fun z => absurd z c1, fun _ z => absurd c2 (by grind), fun _ _ => ⟨rfl, rfl, Iff.rfl⟩⟩
  · rw [if_neg c2]
    have g : pgI n (pgU σ 4 j 3) := pgI_u h.1 (by omega)
    refine ⟨σ 4 j, pgU σ 4 j 3, rfl, rfl, by simp, ?_, fun i hi => pvE_u hi, fun z => absurd z c1, fun _ _ => ⟨rfl, pgU_self, Or.inl pgU_self⟩, fun _ z => absurd ⟨Classical.not_not.mp (fun z2 => c2 (Or.inl z2)), fun z2 => c2 (Or.inr z2)⟩ z⟩
    refine pvI_one h hj g ?_ (fun i hi t ht => by simp [pgU, hi]) (fun a => by simp [pgU]) (fun a => by simp [pgU]) (fun a => by simp [pgU]) (by simp [pgU]) (fun a => rfl) (fun a => rfl) (fun i _ => rfl) ?_ (fun i hi => by simpa [pgU] using h.2.2.2.2.2.2 i hi)
    · simpa [pvN, pgU] using h.2.1
    · refine ⟨?_, ?_, ?_, ?_, ?_, ?_⟩
      · simpa [pgU] using d1
      · simpa [pgU] using d2
      · simpa [pgU] using d3
      · simp [pgU]
      · simpa [pgU] using d5
      · simpa [pgU] using d6
theorem pv_check1 (h : pvI n σ φ m Bd) (hj : j < n) (hk : k < 8) : ∃ t τ, pvT (sp_check σ (nI j) (nI k) 1) = t ∧ (sp_check σ (nI j) (nI k) 1).2.2 = τ ∧ (sp_check σ (nI j) (nI k) 1).1 ≠ 1 ∧ pvI n τ φ m Bd ∧ (∀ i, i ≠ j → pvE τ i = pvE σ i) ∧
    ((σ 4 j = 1 ∧ φ 4 j = nI k) → t = -9 ∧ τ 4 j = σ 4 j ∧ (pgFin τ j ↔ pgFin σ j)) ∧
    (¬ (σ 4 j = 1 ∧ φ 4 j = nI k) → (pgReach σ j ∧ σ 4 j = 1) → t = 1 ∧ τ 4 j = 1 ∧ pgFin τ j) ∧
    (¬ (σ 4 j = 1 ∧ φ 4 j = nI k) → ¬ (pgReach σ j ∧ σ 4 j = 1) → t = -8 ∧ τ 4 j = σ 4 j ∧ (pgFin τ j ↔ pgFin σ j)) := by
  obtain ⟨hd, hx⟩ := pv_isD h.1 hj
  have hK := pv_isK hk
  obtain ⟨d1, d2, d3, d4, d5, d6⟩ := h.2.2.1 j hj
  unfold sp_check
  rw [if_neg (fun z => z ⟨hd, hK⟩), hx]
  have e0 : (σ 4 j = 1 ∧ nI k = σ 7 j) ↔ (σ 4 j = 1 ∧ φ 4 j = nI k) := by
    rw [d6]
    exact ⟨fun z => ⟨z.1, z.2.symm⟩, fun z => ⟨z.1, z.2.symm⟩⟩
  by_cases c1 : σ 4 j = 1 ∧ φ 4 j = nI k
  · rw [if_pos (e0.mpr c1)]
    exact ⟨-9, σ, rfl, rfl, by simp, h, fun _ _ => rfl, fun _ => ⟨rfl, rfl, Iff.rfl⟩, fun z => absurd c1 z, fun z => absurd c1 z⟩
  rw [if_neg (fun z => c1 (e0.mp z))]
  by_cases c2 : ¬ pgReach σ j ∨ σ 4 j ≠ 1
  · rw [if_pos c2]
    exact ⟨-8, σ, rfl, rfl, by simp, h, fun _ _ => rfl, fun z => absurd z c1, fun _ z => absurd c2 (by grind), fun _ _ => ⟨rfl, rfl, Iff.rfl⟩⟩
  · rw [if_neg c2, if_neg (by decide)]
    have gg : pgI n (pgU (pgU σ 8 j 1) 4 j 1) := pgI_u (pgI_u h.1 (by omega)) (by omega)
    refine ⟨1, pgU (pgU σ 8 j 1) 4 j 1, rfl, rfl, by simp, ?_, fun i hi => pvE_congr (by simp [pgU, hi]) (by simp [pgU, hi]) (by simp [pgU, hi]) (by simp [pgU, hi]) (by simp [pgU, hi]) (by simp [pgU, hi]), fun z => absurd z c1, fun _ _ => ⟨rfl, pgU_self, by simp [pgU, pgFin]⟩, fun _ z => absurd ⟨Classical.not_not.mp (fun z2 => c2 (Or.inl z2)), Classical.not_not.mp (fun z2 => c2 (Or.inr z2))⟩ z⟩
    refine pvI_one h hj gg ?_ (fun i hi t ht => by simp [pgU, hi]) (fun a => by simp [pgU]) (fun a => by simp [pgU]) (fun a => by simp [pgU]) (by simp [pgU]) (fun a => rfl) (fun a => rfl) (fun i _ => rfl) ?_ (fun i hi => by simpa [pgU] using h.2.2.2.2.2.2 i hi)
    · simpa [pvN, pgU] using h.2.1
    · refine ⟨?_, ?_, ?_, ?_, ?_, ?_⟩
      · simpa [pgU] using d1
      · simpa [pgU] using d2
      · simpa [pgU] using d3
      · simp [pgU]
      · simpa [pgU] using d5
      · simpa [pgU] using d6
theorem pv_check0 (h : pvI n σ φ m Bd) (hj : j < n) (hk : k < 8) : ∃ t τ, pvT (sp_check σ (nI j) (nI k) 0) = t ∧ (sp_check σ (nI j) (nI k) 0).2.2 = τ ∧ (sp_check σ (nI j) (nI k) 0).1 ≠ 1 ∧ pvI n τ φ m Bd ∧ (∀ i, i ≠ j → pvE τ i = pvE σ i) ∧
    ((σ 4 j = 1 ∧ φ 4 j = nI k) → t = -9 ∧ τ 4 j = σ 4 j ∧ (pgFin τ j ↔ pgFin σ j)) ∧
    (¬ (σ 4 j = 1 ∧ φ 4 j = nI k) → (pgReach σ j ∧ σ 4 j = 1) → t = 2 ∧ τ 4 j = 2 ∧ ¬ pgFin τ j) ∧
    (¬ (σ 4 j = 1 ∧ φ 4 j = nI k) → ¬ (pgReach σ j ∧ σ 4 j = 1) → t = -8 ∧ τ 4 j = σ 4 j ∧ (pgFin τ j ↔ pgFin σ j)) := by
  obtain ⟨hd, hx⟩ := pv_isD h.1 hj
  have hK := pv_isK hk
  obtain ⟨d1, d2, d3, d4, d5, d6⟩ := h.2.2.1 j hj
  unfold sp_check
  rw [if_neg (fun z => z ⟨hd, hK⟩), hx]
  have e0 : (σ 4 j = 1 ∧ nI k = σ 7 j) ↔ (σ 4 j = 1 ∧ φ 4 j = nI k) := by
    rw [d6]
    exact ⟨fun z => ⟨z.1, z.2.symm⟩, fun z => ⟨z.1, z.2.symm⟩⟩
  by_cases c1 : σ 4 j = 1 ∧ φ 4 j = nI k
  · rw [if_pos (e0.mpr c1)]
    exact ⟨-9, σ, rfl, rfl, by simp, h, fun _ _ => rfl, fun _ => ⟨rfl, rfl, Iff.rfl⟩, fun z => absurd c1 z, fun z => absurd c1 z⟩
  rw [if_neg (fun z => c1 (e0.mp z))]
  by_cases c2 : ¬ pgReach σ j ∨ σ 4 j ≠ 1
  · rw [if_pos c2]
    exact ⟨-8, σ, rfl, rfl, by simp, h, fun _ _ => rfl, fun z => absurd z c1, fun _ z => absurd c2 (by grind), fun _ _ => ⟨rfl, rfl, Iff.rfl⟩⟩
  · rw [if_neg c2, if_pos rfl]
    have gg : pgI n (pgU (pgU σ 8 j 0) 4 j 2) := pgI_u (pgI_u h.1 (by omega)) (by omega)
    refine ⟨2, pgU (pgU σ 8 j 0) 4 j 2, rfl, rfl, by simp, ?_, fun i hi => pvE_congr (by simp [pgU, hi]) (by simp [pgU, hi]) (by simp [pgU, hi]) (by simp [pgU, hi]) (by simp [pgU, hi]) (by simp [pgU, hi]), fun z => absurd z c1, fun _ _ => ⟨rfl, pgU_self, by simp [pgU, pgFin]⟩, fun _ z => absurd ⟨Classical.not_not.mp (fun z2 => c2 (Or.inl z2)), Classical.not_not.mp (fun z2 => c2 (Or.inr z2))⟩ z⟩
    refine pvI_one h hj gg ?_ (fun i hi t ht => by simp [pgU, hi]) (fun a => by simp [pgU]) (fun a => by simp [pgU]) (fun a => by simp [pgU]) (by simp [pgU]) (fun a => rfl) (fun a => rfl) (fun i _ => rfl) ?_ (fun i hi => by simpa [pgU] using h.2.2.2.2.2.2 i hi)
    · simpa [pvN, pgU] using h.2.1
    · refine ⟨?_, ?_, ?_, ?_, ?_, ?_⟩
      · simpa [pgU] using d1
      · simpa [pgU] using d2
      · simpa [pgU] using d3
      · simp [pgU]
      · simpa [pgU] using d5
      · simpa [pgU] using d6
theorem pv_lose (h : pvI n σ φ m Bd) (hj : j < n) : ∃ t τ, pvT (sp_lose σ (nI j)) = t ∧ (sp_lose σ (nI j)).2.2 = τ ∧ (sp_lose σ (nI j)).1 ≠ 1 ∧ pgI n τ ∧ (∀ i, i ≠ j → pvE τ i = pvE σ i) ∧
    (σ 5 j ≠ 0 → t = -8 ∧ (∀ i, pvE τ i = pvE σ i) ∧ pvI n τ φ m Bd) ∧
    (σ 5 j = 0 → t = τ 2 j ∧ τ 3 j = σ 3 j ∧ τ 6 j = -1 ∧ pvI n τ φ (m ^^^ ((1 : Int64) <<< ((nI j).toInt64 &&& 63))) Bd) := by
  obtain ⟨hd, hx⟩ := pv_isD h.1 hj
  obtain ⟨d1, d2, d3, d4, d5, d6⟩ := h.2.2.1 j hj
  have h64 := pv_j64 h hj
  unfold sp_lose
  rw [if_neg (fun z => z hd), hx]
  by_cases c1 : σ 5 j ≠ 0
  · rw [if_pos c1]
    exact ⟨-8, σ, rfl, rfl, by simp, h.1, fun _ _ => rfl, fun _ => ⟨rfl, fun _ => rfl, h⟩, fun z => absurd z c1⟩
  · rw [if_neg c1]
    have c0 := Classical.not_not.mp c1
    have g : pgI n (pgU (pgU σ 5 j 1) 6 j (-1)) := pgI_u (pgI_u h.1 (by omega)) (by omega)
    refine ⟨σ 2 j, pgU (pgU σ 5 j 1) 6 j (-1), rfl, rfl, by simp, g, fun i hi => pvE_congr (by simp [pgU, hi]) (by simp [pgU, hi]) (by simp [pgU, hi]) (by simp [pgU, hi]) (by simp [pgU, hi]) (by simp [pgU, hi]), fun z => absurd z c1, fun _ => ⟨by simp [pgU], by simp [pgU], by simp [pgU], ?_⟩⟩
    refine pvI_one h hj g ?_ (fun i hi t ht => by simp [pgU, hi]) (fun a => by simp [pgU]) (fun a => by simp [pgU]) (fun a => by simp [pgU]) (by simp [pgU]) (fun a => rfl) (fun a => rfl) (fun i _ => rfl) ?_ (fun i hi => ?_)
    · simpa [pvN, pgU] using h.2.1
    · refine ⟨?_, ?_, ?_, ?_, ?_, ?_⟩
      · simpa [pgU] using d1
      · rcases d2 with z | z
        · left; simpa [pgU] using z
        · right; simpa [pgU] using z.1
      · left; simp [pgU]
      · simpa [pgU] using d4
      · simpa [pgU] using d5
      · simpa [pgU] using d6
    · have h7 := h.2.2.2.2.2.2 i hi
      rw [pvB_xor, pvB_1 h64]
      by_cases e : i = j
      · subst e
        have : ¬ pvB m i := fun z => (h7.mp z) c0
        simp [pgU, this]
      · simp [pgU, e, h7]
theorem pv_find (h : pvI n σ φ m Bd) (hj : j < n) : ∃ t τ, pvT (sp_find σ (nI j)) = t ∧ (sp_find σ (nI j)).2.2 = τ ∧ (sp_find σ (nI j)).1 ≠ 1 ∧ pgI n τ ∧ (∀ i, i ≠ j → pvE τ i = pvE σ i) ∧
    (σ 5 j = 0 → t = -8 ∧ (∀ i, pvE τ i = pvE σ i) ∧ pvI n τ φ m Bd) ∧
    (σ 5 j ≠ 0 → t = σ 3 j ∧ τ 3 j = σ 3 j ∧ τ 6 j = -1 ∧ pvI n τ φ (m ^^^ ((1 : Int64) <<< ((nI j).toInt64 &&& 63))) Bd) := by
  obtain ⟨hd, hx⟩ := pv_isD h.1 hj
  obtain ⟨d1, d2, d3, d4, d5, d6⟩ := h.2.2.1 j hj
  have h64 := pv_j64 h hj
  unfold sp_find
  rw [if_neg (fun z => z hd), hx]
  by_cases c1 : σ 5 j = 0
  · rw [if_pos c1]
    exact ⟨-8, σ, rfl, rfl, by simp, h.1, fun _ _ => rfl, fun _ => ⟨rfl, fun _ => rfl, h⟩, fun z => absurd c1 z⟩
  · rw [if_neg c1]
    have c6 : σ 6 j = -1 := d3.elim id (fun z => absurd z.2.2 c1)
    have g : pgI n (pgU σ 5 j 0) := pgI_u h.1 (by omega)
    refine ⟨σ 3 j, pgU σ 5 j 0, rfl, rfl, by simp, g, fun i hi => pvE_u hi, fun z => absurd z c1, fun _ => ⟨rfl, by simp [pgU], by simpa [pgU] using c6, ?_⟩⟩
    refine pvI_one h hj g ?_ (fun i hi t ht => by simp [pgU, hi]) (fun a => by simp [pgU]) (fun a => by simp [pgU]) (fun a => by simp [pgU]) (by simp [pgU]) (fun a => rfl) (fun a => rfl) (fun i _ => rfl) ?_ (fun i hi => ?_)
    · simpa [pvN, pgU] using h.2.1
    · refine ⟨?_, ?_, ?_, ?_, ?_, ?_⟩
      · simpa [pgU] using d1
      · simpa [pgU] using d2
      · left; simpa [pgU] using c6
      · simpa [pgU] using d4
      · simpa [pgU] using d5
      · simpa [pgU] using d6
    · have h7 := h.2.2.2.2.2.2 i hi
      rw [pvB_xor, pvB_1 h64]
      by_cases e : i = j
      · subst e
        have : pvB m i := h7.mpr c1
        simp [pgU, this]
      · simp [pgU, e, h7]
end PV23
end
section
section PV24
variable {n j k c w q a b : Nat} {σ τ φ ψ : pgSt} {m m2 : Int64} {Bd : Nat}
theorem pv_sealI (h : pgI n σ) (hc : c < 10) (hs : ¬ (σ 11 c ≠ -1 ∨ ¬ σ 13 1 < 100)) {v : Int32} : pgI n (pgU (pgU (pgU σ 11 c (σ 13 1)) 12 c v) 13 1 (σ 13 1 + 1)) := by
  obtain ⟨h1, h2, h3, ⟨K, k1, k2, k3⟩, h5, h6⟩ := h
  have hK : K < 100 := by
    by_cases z : K < 100
    · exact z
    · refine absurd ?_ (fun z2 => hs (Or.inr z2))
      have : K = 100 := by omega
      rw [k2, this]
      decide
  refine ⟨h1, ?_, fun i hi => ?_, ⟨K + 1, by omega, ?_, fun c2 hc2 => ?_⟩, fun i hi => ?_, fun i hi => ?_⟩
  · rw [← h2]
    simp [pgU]
  · have := h3 i hi
    simpa [pgU] using this
  · simp only [pgU]
    rw [k2]
    simp [nI_1]
  · have := k3 c2 hc2
    simp only [pgU]
    by_cases z : c2 = c
    · refine Or.inr ⟨K, by omega, ?_⟩
      simp [z, k2]
    · rcases this with h9 | ⟨k9, h9, h10⟩
      · exact Or.inl (by simp [z, h9])
      · exact Or.inr ⟨k9, by omega, by simp [z, h10]⟩
  · have := h5 i hi
    simpa [pgU] using this
  · have := h6 i hi
    simpa [pgU] using this
theorem pv_seal (h : pvI n σ φ m Bd) (hc : c < 10) : ∃ t τ, pvT (sp_seal σ (nI c)) = t ∧ (sp_seal σ (nI c)).2.2 = τ ∧ (sp_seal σ (nI c)).1 ≠ 1 ∧ pgI n τ ∧ (∀ i, pvE τ i = pvE σ i) ∧
    ((σ 11 c = -1 ∧ σ 13 1 < 100) → t = σ 13 1 ∧ τ 11 c = t ∧ pvI n τ (pgU (pgU φ 3 c (pgCnt σ n (nI c))) 0 3 (φ 0 3 + 1)) m Bd) ∧
    (¬ (σ 11 c = -1 ∧ σ 13 1 < 100) → t = -8 ∧ τ 11 c = σ 11 c ∧ pvI n τ (pgU (pgU φ 3 c (φ 3 c)) 0 3 (φ 0 3 + 0)) m Bd) := by
  obtain ⟨hC, hy⟩ := pv_isC hc
  have h1 := h.1
  unfold sp_seal
  rw [if_neg (fun z => z hC), hy]
  by_cases c1 : σ 11 c ≠ -1 ∨ ¬ σ 13 1 < 100
  · rw [if_pos c1]
    refine ⟨-8, σ, rfl, rfl, by simp, h.1, fun _ => rfl, fun z => absurd c1 (by grind), fun _ => ⟨rfl, rfl, ?_⟩⟩
    rw [pgU_same (t := 3) (i := c) rfl]
    exact pvI_add0 h
  · rw [if_neg c1, pgI_n h.1]
    refine ⟨σ 13 1, pgU (pgU (pgU σ 11 c (σ 13 1)) 12 c (pgCnt σ n (nI c))) 13 1 (σ 13 1 + 1), rfl, rfl, by simp, pv_sealI h.1 hc c1, fun i => pvE_congr (by simp [pgU]) (by simp [pgU]) (by simp [pgU]) (by simp [pgU]) (by simp [pgU]) (by simp [pgU]), fun _ => ⟨rfl, by simp [pgU], ?_⟩, fun z => absurd c1 (by grind)⟩
    refine pvI_cr h (pv_sealI h.1 hc c1) ?_ (fun t ht i => by
      have q1 : t ≠ 11 := by omega
      have q2 : t ≠ 12 := by omega
      have q3 : t ≠ 13 := by omega
      simp [pgU, q1, q2, q3]) (fun a => by simp [pgU]) (fun a => by simp [pgU]) (fun a ha => ?_) (by simp [pgU]) (fun a => by simp [pgU]) (fun i => by simp [pgU])
    · obtain ⟨n1, n2, n3, n4, n5⟩ := h.2.1
      exact ⟨by simp [pgU, n1], by simp [pgU, n2], by simp [pgU, n3], by simp [pgU, n4], by simp [pgU, n5]⟩
    · obtain ⟨z1, z2, z3⟩ := h.2.2.2.2.1 a ha
      refine ⟨by simpa [pgU] using z1, ?_, ?_⟩
      · by_cases e : a = c
        · simp [pgU, e]
        · simpa [pgU, e] using z2
      · by_cases e : a = c
        · exact ⟨pgN (fun j => decide (σ 3 j = nI c)) n, Nat.le_trans (pgN_le _ n) h1.1, by simp [pgU, e]⟩
        · simpa [pgU, e] using z3
theorem pv_open (h : pvI n σ φ m Bd) (hc : c < 10) {v : Int32} (hv : 0 ≤ v ∧ v ≤ 99) : ∃ t τ, pvT (sp_open σ (nI c) v) = t ∧ (sp_open σ (nI c) v).2.2 = τ ∧ (sp_open σ (nI c) v).1 ≠ 1 ∧ pgI n τ ∧ (∀ i, pvE τ i = pvE σ i) ∧ τ 11 c = -1 ∧
    (σ 11 c = -1 → t = -8 ∧ pvI n τ (pgU φ 0 4 (φ 0 4 + 0)) m Bd) ∧
    (σ 11 c ≠ -1 → t = v - φ 3 c ∧ (v = φ 3 c → pvI n τ (pgU φ 0 4 (φ 0 4 + 0)) m Bd) ∧ (v ≠ φ 3 c → pvI n τ (pgU φ 0 4 (φ 0 4 + 1)) m Bd)) := by
  obtain ⟨hC, hy⟩ := pv_isC hc
  obtain ⟨z1, z2, z3⟩ := h.2.2.2.2.1 c hc
  unfold sp_open
  rw [if_neg (fun z => z hC), if_neg (fun z => z hv), hy, ← z2]
  by_cases c1 : σ 11 c = -1
  · rw [if_pos c1]
    exact ⟨-8, σ, rfl, rfl, by simp, h.1, fun _ => rfl, c1, fun _ => ⟨rfl, pvI_add0 h⟩, fun z => absurd c1 z⟩
  · rw [if_neg c1]
    have g1 : pgI n (pgU σ 11 c (-1)) := pgI_u h.1 (Or.inr (Or.inr (Or.inr (Or.inr (Or.inr (Or.inr (Or.inr (Or.inr (Or.inr (Or.inr ⟨rfl, rfl⟩))))))))))
    have hs : v - φ 3 c = 0 ↔ v = φ 3 c := by
      constructor
      · intro z; grind
      · intro z; grind
    by_cases c2 : v - φ 3 c = 0
    · rw [if_pos c2]
      refine ⟨v - φ 3 c, pgU σ 11 c (-1), rfl, rfl, by simp, g1, fun i => pvE_t (by omega), pgU_self, fun z => absurd z c1, fun _ => ⟨rfl, fun _ => pvI_add0 ?_, fun z => absurd (hs.mp c2) z⟩⟩
      refine pvI_cr h g1 ?_ (fun t ht i => by
      have q1 : t ≠ 11 := by omega
      have q2 : t ≠ 12 := by omega
      have q3 : t ≠ 13 := by omega
      simp [pgU, q1, q2, q3]) (fun a => by simp [pgU]) (fun a => by simp [pgU]) (fun a ha => ?_) (by simp [pgU]) (fun a => rfl) (fun i => rfl)
      · simpa [pvN, pgU] using h.2.1
      · simpa [pvK, pgU] using h.2.2.2.2.1 a ha
    · rw [if_neg c2]
      have g2 : pgI n (pgU (pgU σ 11 c (-1)) 13 2 (σ 13 2 + 1)) := pgI_u g1 (by omega)
      refine ⟨v - φ 3 c, pgU (pgU σ 11 c (-1)) 13 2 (σ 13 2 + 1), rfl, rfl, by simp, g2, fun i => pvE_congr (by simp [pgU]) (by simp [pgU]) (by simp [pgU]) (by simp [pgU]) (by simp [pgU]) (by simp [pgU]), by simp [pgU], fun z => absurd z c1, fun _ => ⟨rfl, fun z => absurd (hs.mpr z) c2, fun _ => ?_⟩⟩
      refine pvI_cr h g2 ?_ (fun t ht i => by
      have q1 : t ≠ 11 := by omega
      have q2 : t ≠ 12 := by omega
      have q3 : t ≠ 13 := by omega
      simp [pgU, q1, q2, q3]) (fun a => by simp [pgU]) (fun a => by simp [pgU]) (fun a ha => ?_) (by simp [pgU]) (fun a => by simp [pgU]) (fun i => by simp [pgU])
      · obtain ⟨n1, n2, n3, n4, n5⟩ := h.2.1
        exact ⟨by simp [pgU, n1], by simp [pgU, n2], by simp [pgU, n3], by simp [pgU, n4], by simp [pgU, n5]⟩
      · simpa [pvK, pgU] using h.2.2.2.2.1 a ha
theorem pv_cnt0 (h : pgI n σ) : (σ 11 c = -1 ∧ 0 < pgCnt σ n (nI c)) ↔ ¬ (σ 11 c ≠ -1 ∨ pgCnt σ n (nI c) = 0) := by
  have h1 := h.1
  unfold pgCnt
  have h2 := pgN_le (fun j => decide (σ 3 j = nI c)) n
  generalize pgN (fun j => decide (σ 3 j = nI c)) n = N at *
  have e : (0 : Int32) < nI N ↔ ¬ nI N = 0 := by
    rw [pv_0 (by omega), ← nI_0, nI_ltI (by omega) (by omega)]
    omega
  rw [e]
  grind
theorem pv_carry (h : pvI n σ φ m Bd) (hc : c < 10) (hk : k < 8) : ∃ t τ, pvT (sp_carry σ (nI c) (nI k)) = t ∧ (sp_carry σ (nI c) (nI k)).2.2 = τ ∧ (sp_carry σ (nI c) (nI k)).1 ≠ 1 ∧ pgI n τ ∧
    (nI k = σ 10 c → t = -9 ∧ (∀ i, pvE τ i = pvE σ i) ∧ pvI n τ φ m Bd) ∧
    (nI k ≠ σ 10 c → ¬ (σ 11 c ≠ -1 ∨ pgCnt σ n (nI c) = 0) → t = -8 ∧ (∀ i, pvE τ i = pvE σ i) ∧ pvI n τ φ m Bd) ∧
    (nI k ≠ σ 10 c → (σ 11 c ≠ -1 ∨ pgCnt σ n (nI c) = 0) → t = σ 10 c ∧ τ 10 c = nI k ∧ τ 11 c = σ 11 c ∧ (∀ i, τ 3 i = σ 3 i) ∧ (∀ i, i < n → σ 3 i = nI c → τ 2 i = nI k) ∧ (∀ i, σ 3 i ≠ nI c → pvE τ i = pvE σ i) ∧ pvI n τ (pgU φ 0 1 (φ 0 1 + pgCnt σ n (nI c))) m Bd) := by
  obtain ⟨hC, hy⟩ := pv_isC hc
  have hK := pv_isK hk
  unfold sp_carry
  rw [if_neg (fun z => z ⟨hC, hK⟩), hy, pgI_n h.1]
  by_cases c1 : nI k = σ 10 c
  · rw [if_pos c1]
    exact ⟨-9, σ, rfl, rfl, by simp, h.1, fun _ => ⟨rfl, fun _ => rfl, h⟩, fun z => absurd c1 z, fun z => absurd c1 z⟩
  rw [if_neg c1]
  by_cases c2 : σ 11 c = -1 ∧ 0 < pgCnt σ n (nI c)
  · rw [if_pos c2]
    exact ⟨-8, σ, rfl, rfl, by simp, h.1, fun z => absurd z c1, fun _ _ => ⟨rfl, fun _ => rfl, h⟩, fun _ z => absurd z ((pv_cnt0 h.1).mp c2)⟩
  · rw [if_neg c2]
    have g : pgI n (pgHoN (pgU σ 10 c (nI k)) (nI c) (nI k) n) := pgI_hoN (pgI_u h.1 (by omega))
    have e3 : ∀ i, pgHoN (pgU σ 10 c (nI k)) (nI c) (nI k) n 3 i = σ 3 i := fun i => by simp [pgHoN, pgU]
    have e13 : pgHoN (pgU σ 10 c (nI k)) (nI c) (nI k) n 13 3 = σ 13 3 + pgCnt σ n (nI c) := by simp [pgHoN, pgCnt, pgU]
    have e2 : ∀ i, i < n → σ 3 i = nI c → pgHoN (pgU σ 10 c (nI k)) (nI c) (nI k) n 2 i = nI k := fun i hi hz => by simp [pgHoN, pgU, hi, hz]
    have eo : ∀ i, σ 3 i ≠ nI c → ∀ t, t < 10 → pgHoN (pgU σ 10 c (nI k)) (nI c) (nI k) n t i = σ t i := fun i hz t ht => by
      have q1 : t ≠ 13 := by omega
      have q2 : t ≠ 10 := by omega
      simp [pgHoN, pgU, hz, q1, q2]
    have et : ∀ i t, t < 10 → t ≠ 2 → pgHoN (pgU σ 10 c (nI k)) (nI c) (nI k) n t i = σ t i := fun i t ht h2 => by
      have q1 : t ≠ 13 := by omega
      have q2 : t ≠ 10 := by omega
      have q3 : t ≠ 14 := by omega
      simp [pgHoN, pgU, h2, q1, q2, q3]
    have e10 : ∀ i, pgHoN (pgU σ 10 c (nI k)) (nI c) (nI k) n 10 i = if i = c then nI k else σ 10 i := fun i => by simp [pgHoN, pgU]
    have e12 : ∀ i, pgHoN (pgU σ 10 c (nI k)) (nI c) (nI k) n 12 i = σ 12 i := fun i => by simp [pgHoN, pgU]
    have e11 : pgHoN (pgU σ 10 c (nI k)) (nI c) (nI k) n 11 c = σ 11 c := by simp [pgHoN, pgU]
    have n0 : ∀ i, i ≠ 3 → pgHoN (pgU σ 10 c (nI k)) (nI c) (nI k) n 13 i = σ 13 i := fun i hi => by simp [pgHoN, pgU, hi]
    generalize hT : pgHoN (pgU σ 10 c (nI k)) (nI c) (nI k) n = T at *
    refine ⟨σ 10 c, T, rfl, rfl, by simp, g, fun z => absurd z c1, fun _ z => absurd c2 (fun z2 => z (by
      by_cases z3 : (σ 11 c ≠ -1 ∨ pgCnt σ n (nI c) = 0)
      · exact z3
      · exact absurd ((pv_cnt0 h.1).mpr z3) c2)), fun _ _ => ⟨rfl, by rw [e10, if_pos rfl], e11, e3, e2, fun i hi => pvE_congr (eo i hi 2 (by omega)) (eo i hi 3 (by omega)) (eo i hi 4 (by omega)) (eo i hi 6 (by omega)) (eo i hi 8 (by omega)) (eo i hi 9 (by omega)), ?_⟩⟩
    obtain ⟨i1, i2, i3, i4, i5, ⟨C, b1, b2, b3⟩, i7⟩ := h
    refine ⟨g, ?_, fun i hi => ?_, fun i hi hi2 => by simpa [pgU] using i4 i hi hi2, fun i hi => ?_, ⟨C, b1, (n0 4 (by omega)).trans b2, fun i hi => by rw [et i 9 (by omega) (by omega)]; exact b3 i hi⟩, fun i hi => by rw [et i 5 (by omega) (by omega)]; exact i7 i hi⟩
    · obtain ⟨n1, n2, n3, n4, n5⟩ := i2
      refine ⟨by simpa [pgU] using n1, ?_, ?_, ?_, ?_⟩
      · rw [e13, pgU_self, n2]
      · rw [n0 4 (by omega)]; simpa [pgU] using n3
      · rw [n0 1 (by omega)]; simpa [pgU] using n4
      · rw [n0 2 (by omega)]; simpa [pgU] using n5
    · obtain ⟨d1, d2, d3, d4, d5, d6⟩ := i3 i hi
      unfold pvD
      rw [e3, et i 0 (by omega) (by omega), et i 1 (by omega) (by omega), et i 4 (by omega) (by omega), et i 5 (by omega) (by omega), et i 6 (by omega) (by omega), et i 7 (by omega) (by omega)]
      have p2 : pgU φ 0 1 (φ 0 1 + pgCnt σ n (nI c)) 2 i = φ 2 i := by simp [pgU]
      have p4 : pgU φ 0 1 (φ 0 1 + pgCnt σ n (nI c)) 4 i = φ 4 i := by simp [pgU]
      rw [p2, p4]
      by_cases hz : σ 3 i = nI c
      · have hm1 : σ 3 i ≠ -1 := by rw [hz]; exact pv_nm1 (by omega)
        have hf := (d2.resolve_left hm1).2
        rw [e2 i hi hz]
        refine ⟨⟨k, hk, rfl⟩, Or.inr ⟨?_, hf⟩, Or.inl hf, d4, d5, d6⟩
        rw [hz, hy, e10, if_pos rfl]
      · rw [eo i hz 2 (by omega)]
        refine ⟨d1, ?_, d3, d4, d5, d6⟩
        rcases i1.2.2.1 i hi with z | ⟨c9, hc9, z⟩
        · exact Or.inl z
        · have hne : ix (σ 3 i) ≠ c := by
            rw [z, (pv_isC hc9).2]
            intro z2
            exact hz (by rw [z, z2])
          rw [e10, if_neg hne]
          exact d2
    · obtain ⟨z1, z2, z3⟩ := i5 i hi
      refine ⟨?_, ?_, ?_⟩
      · rw [e10]
        by_cases e : i = c
        · rw [if_pos e]; exact ⟨k, hk, rfl⟩
        · rw [if_neg e]; exact z1
      · rw [e12]; simpa [pgU] using z2
      · rw [e12]; exact z3
theorem pv_certify (h : pvI n σ φ m Bd) (hB : Bd ≤ 1000) (hk : k < 8) : ∃ t τ, pvT (sp_certify σ (nI k)) = t ∧ (sp_certify σ (nI k)).2.2 = τ ∧ (sp_certify σ (nI k)).1 ≠ 1 ∧ pgI n τ ∧
    (pgCeN σ (nI k) n = 0 → t = -10 ∧ (∀ i, pvE τ i = pvE σ i) ∧ pvI n τ (pgU φ 0 2 (φ 0 2 + 0)) m (Bd + 1)) ∧
    (pgCeN σ (nI k) n ≠ 0 → t = nI (pgCeN σ (nI k) n) ∧ (∀ i, i < n → (σ 2 i = nI k ∧ pgAw σ i) → τ 9 i = σ 13 4) ∧ pvI n τ (pgU φ 0 2 (φ 0 2 + 1)) m (Bd + 1)) ∧
    (∀ i, ¬ (σ 2 i = nI k ∧ pgAw σ i) → pvE τ i = pvE σ i) := by
  have hK := pv_isK hk
  unfold sp_certify
  rw [if_neg (fun z => z hK), pgI_n h.1]
  by_cases c1 : pgCeN σ (nI k) n = 0
  · rw [if_pos c1]
    exact ⟨-10, σ, rfl, rfl, by simp, h.1, fun _ => ⟨rfl, fun _ => rfl, pvI_le (pvI_add0 h) (by omega)⟩, fun z => absurd c1 z, fun _ _ => rfl⟩
  · rw [if_neg c1]
    have g : pgI n (pgU (pgCe σ (nI k) (σ 13 4) n) 13 4 (σ 13 4 + 1)) := pgI_u (pgI_ce h.1) (by omega)
    have et : ∀ t i, t ≠ 9 → t ≠ 13 → pgU (pgCe σ (nI k) (σ 13 4) n) 13 4 (σ 13 4 + 1) t i = σ t i := fun t i h1 h2 => by simp [pgU, pgCe, h1, h2]
    have e9 : ∀ i, pgU (pgCe σ (nI k) (σ 13 4) n) 13 4 (σ 13 4 + 1) 9 i = if i < n ∧ σ 2 i = nI k ∧ pgAw σ i then σ 13 4 else σ 9 i := fun i => by simp [pgU, pgCe]
    have e13 : ∀ i, i ≠ 4 → pgU (pgCe σ (nI k) (σ 13 4) n) 13 4 (σ 13 4 + 1) 13 i = σ 13 i := fun i hi => by simp [pgU, pgCe, hi]
    have e134 : pgU (pgCe σ (nI k) (σ 13 4) n) 13 4 (σ 13 4 + 1) 13 4 = σ 13 4 + 1 := pgU_self
    generalize hT : pgU (pgCe σ (nI k) (σ 13 4) n) 13 4 (σ 13 4 + 1) = T at *
    refine ⟨nI (pgCeN σ (nI k) n), T, rfl, rfl, by simp, g, fun z => absurd z c1, fun _ => ⟨rfl, fun i hi ho => by rw [e9, if_pos ⟨hi, ho⟩], ?_⟩, fun i hi => pvE_congr (et 2 i (by omega) (by omega)) (et 3 i (by omega) (by omega)) (et 4 i (by omega) (by omega)) (et 6 i (by omega) (by omega)) (et 8 i (by omega) (by omega)) (by rw [e9, if_neg (fun z => hi z.2)])⟩
    obtain ⟨i1, i2, i3, i4, i5, ⟨C, b1, b2, b3⟩, i7⟩ := h
    refine ⟨g, ?_, fun i hi => pvD_congr (i3 i hi) (fun t ht => et t i (by omega) (by omega)) (fun a => et 10 a (by omega) (by omega)) (by simp [pgU]) (by simp [pgU]), fun i hi hi2 => by simpa [pgU] using i4 i hi hi2, fun i hi => ?_, ⟨C + 1, by omega, ?_, fun i hi => ?_⟩, fun i hi => by rw [et 5 i (by omega) (by omega)]; exact i7 i hi⟩
    · obtain ⟨n1, n2, n3, n4, n5⟩ := i2
      refine ⟨by simpa [pgU] using n1, ?_, ?_, ?_, ?_⟩
      · rw [e13 3 (by omega)]; simpa [pgU] using n2
      · rw [e134, pgU_self, n3]
      · rw [e13 1 (by omega)]; simpa [pgU] using n4
      · rw [e13 2 (by omega)]; simpa [pgU] using n5
    · obtain ⟨z1, z2, z3⟩ := i5 i hi
      refine ⟨?_, ?_, ?_⟩
      · rw [et 10 i (by omega) (by omega)]; exact z1
      · rw [et 12 i (by omega) (by omega)]; simpa [pgU] using z2
      · rw [et 12 i (by omega) (by omega)]; exact z3
    · rw [e134, b2]; exact nI_1 C
    · rw [e9]
      by_cases ho : i < n ∧ σ 2 i = nI k ∧ pgAw σ i
      · rw [if_pos ho]; exact Or.inr ⟨C, by omega, b2⟩
      · rw [if_neg ho]
        rcases b3 i hi with z | ⟨k9, z1, z2⟩
        · exact Or.inl z
        · exact Or.inr ⟨k9, by omega, z2⟩
theorem pv_bring (h : pvI n σ φ m Bd) (hn : n < 60) (ha : a < 3) (hb : b < 4) (hq : q < 8) : ∃ τ, sp_bring σ (nI a) (nI b) (nI q) = (0, nI n, τ) ∧ τ 2 n = nI q ∧ τ 4 n = 0 ∧ τ 3 n = -1 ∧ pvI (n + 1) τ (pgU (pgU (pgU φ 2 n (nI (a + 4 * b))) 0 0 (φ 0 0 + 1)) 0 1 (φ 0 1 + 1)) m Bd := by
  have hK := pv_isK hq
  have h2 := h.1.2.1
  have hix : ix (σ 13 0) = n := pgI_n h.1
  have hs : σ 13 0 < 60 := by rw [h2]; exact nI_lt (b := 60) hn (by omega)
  have hA : 0 ≤ nI a ∧ nI a < 3 ∧ 0 ≤ nI b ∧ nI b < 4 := ⟨nI_pos' (by omega), nI_lt (b := 3) ha (by omega), nI_pos' (by omega), nI_lt (b := 4) hb (by omega)⟩
  unfold sp_bring
  rw [if_neg (fun z => z hK), if_neg (fun z => z hA), if_neg (fun z => z hs), hix]
  obtain ⟨i1, i2, i3, i4, i5, ⟨C, b1, b2, b3⟩, i7⟩ := h
  obtain ⟨g1, g2, g3, ⟨K, k1, k2, k3⟩, g5, g6⟩ := i1
  have z4 := g5 n (Nat.le_refl n)
  refine ⟨_, by rw [h2], by simp, by simp [z4.1], by simp, ⟨⟨by omega, ?_, fun i hi => ?_, ⟨K, k1, ?_, fun c hc => ?_⟩, fun i hi => ?_, fun i hi => ?_⟩, ?_, fun i hi => ?_, fun i hi hi2 => ?_, fun i hi => ?_, ⟨C, b1, ?_, fun i hi => ?_⟩, fun i hi => ?_⟩⟩
  · simp [h2, nI_1]
  · have := g3 i
    try dsimp only
    grind (splits := 40)
  · simp [k2]
  · have := k3 c hc
    try dsimp only
    grind (splits := 40)
  · have := g5 i (by omega)
    try dsimp only
    grind (splits := 40)
  · have := g6 i
    try dsimp only
    grind (splits := 40)
  · obtain ⟨n1, n2, n3, n4, n5⟩ := i2
    exact ⟨by simp [pgU, n1, nI_1], by simp [pgU, n2], by simp [pgU, n3], by simp [pgU, n4], by simp [pgU, n5]⟩
  · by_cases e : i = n
    · subst e
      have z7 := i4 i (Nat.le_refl i) hn
      refine ⟨⟨q, hq, by simp⟩, Or.inl (by simp), Or.inl (by simp), Or.inl (by simp [z4.1]), ⟨a, b, ha, hb, by simp, by simp, by simp [pgU]⟩, by simp [pgU, z7]⟩
    · refine pvD_congr (i3 i (by omega)) (fun t ht => ?_) (fun a9 => by simp) (by simp [pgU, e]) (by simp [pgU, e])
      have q1 : t ≠ 13 := by omega
      simp [e, q1]
  · have := i4 i (by omega) hi2
    simpa [pgU] using this
  · have := i5 i hi
    obtain ⟨z1, z2, z3⟩ := this
    refine ⟨?_, ?_, ?_⟩
    · simpa using z1
    · simpa [pgU] using z2
    · simpa using z3
  · simp [b2]
  · by_cases e : i = n
    · subst e; left; simp
    · have := b3 i (by omega)
      simpa [e] using this
  · have := i7 i hi
    simpa using this
end PV24
end
section
theorem pv_same0 {n : Nat} {σ τ φ ψ : pgSt} (hd : ∀ i, i < n → φ 1 i = pvE σ i) (hE : ∀ i, pvE τ i = pvE σ i) (hp : ∀ i, ψ 1 i = φ 1 i) : ∀ i, i < n → pvB 0 i ∨ pvE τ i = ψ 1 i := fun i hi => Or.inr (by rw [hE, hp, hd i hi])
theorem pv_same1 {n j : Nat} {σ τ φ ψ : pgSt} (hj : j < 64) (hd : ∀ i, i < n → φ 1 i = pvE σ i) (hE : ∀ i, i ≠ j → pvE τ i = pvE σ i) (hp : ∀ i, ψ 1 i = φ 1 i) : ∀ i, i < n → pvB ((1 : Int64) <<< ((nI j).toInt64 &&& 63)) i ∨ pvE τ i = ψ 1 i := fun i hi => by
  by_cases e : i = j
  · exact Or.inl ((pvB_1 hj).mpr e)
  · exact Or.inr (by rw [hE i e, hp, hd i hi])
/-- hands_0 -/
abbrev rm_hands_0 : Room := { frames := 10, cells := 372, slots := 2232, locals := 172 }
set_option maxHeartbeats 4000000 in
set_option maxRecDepth 100000 in
theorem c_L_hands_0 (l : Launch) (hl : l.stackTraces = false) (D : va_G) (cD cC cI cZ cL : ClassId) (A : Nat → Prop) (σ φ : pgSt) (n : Nat) (ad ca : Nat → Nat) (f : Nat → Int64) (Bd : Nat) (h : pvI n σ φ (f 0) Bd) (hd : ∀ i, i < n → φ 1 i = pvE σ i) (j : Nat) (hj : j < n) (k : Nat) (hk : k < 8) : Met l yL_hands (.code yL_hands cL_hands 13 (some .boolean) :: pgWd) rm_hands_0 (pgPc D (pgTys cD cC cI cZ cL) A (pvW D cD cC cI cL A σ n ad φ ca f) [.ref (ad 0), .int 0, .int (nI j), .int (nI k), .ref (ca 0), .ref (ca 1), .ref (ca 5)]) (va_Qi (fun (r : Int32) (u : pgSt × pgSt × (Nat → Int64)) => r = 1 ∧ pvI n u.1 u.2.1 (u.2.2 0) (Bd + 1)) (fun u t9 => (pvW D cD cC cI cL A u.1 n ad u.2.1 ca u.2.2) t9.heap) A) rm_hands_0.cells rm_hands_0.slots A := by
  refine pv_enter (own := RL) (by decide) rfl (Nat.le_of_ble_eq_true rfl) (fun p e s m args below meth cc9 Q B hret => ?_)
  have hG := h.1
  have hn60 : n ≤ 60 := hG.1
  have hc0 : φ 0 0 = nI n := h.2.1.1
  have hm := h.2.2.2.2.2.2
  refine j_aload_n B dL_hands_0 0 rfl rfl ?_
  refine j_iload_n B dL_hands_1 2 rfl rfl ?_
  refine j_ask B (σ 2 j) 1 [.int (nI j)] (c_X2_keeperOf l hl D cD cC cI cZ cL (pvA A ca) σ n ad hG (nI j)) (pv_askD hG (by omega) 2) q_241 q_242 q_243 q_1 q_244 hdX2_keeperOf rfl ⟨Nat.le_of_ble_eq_true rfl, Nat.le_of_ble_eq_true rfl⟩ (Nat.le_of_ble_eq_true rfl) dL_hands_2 rfl (1) (6) ⟨Nat.le_of_ble_eq_true rfl, Nat.le_of_ble_eq_true rfl⟩ ⟨Nat.le_of_ble_eq_true rfl, Nat.le_of_ble_eq_true rfl⟩ ?_
  refine j_istore B (L' := [(7, .int (σ 2 j)), (0, .ref (ad 0)), (1, .int 0), (2, .int (nI j)), (3, .int (nI k)), (4, .ref (ca 0)), (5, .ref (ca 1)), (6, .ref (ca 5))]) dL_hands_5 (by decide) rfl ?_
  refine j_aload_n B dL_hands_7 1 rfl rfl ?_
  refine j_iload_n B dL_hands_8 3 rfl rfl ?_
  refine j_ask B (σ 6 j) 1 [.int (nI j)] (c_X2_offeredTo l hl D cD cC cI cZ cL (pvA A ca) σ n ad hG (nI j)) (pv_askD hG (by omega) 6) q_268 q_269 q_270 q_1 q_271 hdX2_offeredTo rfl ⟨Nat.le_of_ble_eq_true rfl, Nat.le_of_ble_eq_true rfl⟩ (Nat.le_of_ble_eq_true rfl) dL_hands_9 rfl (2) (12) ⟨Nat.le_of_ble_eq_true rfl, Nat.le_of_ble_eq_true rfl⟩ ⟨Nat.le_of_ble_eq_true rfl, Nat.le_of_ble_eq_true rfl⟩ ?_
  refine j_istore B (L' := [(8, .int (σ 6 j)), (7, .int (σ 2 j)), (0, .ref (ad 0)), (1, .int 0), (2, .int (nI j)), (3, .int (nI k)), (4, .ref (ca 0)), (5, .ref (ca 1)), (6, .ref (ca 5))]) dL_hands_12 (by decide) rfl ?_
  refine j_iload_n B dL_hands_14 3 rfl rfl ?_
  refine j_if_ne B 153 dL_hands_15 (by decide) (fun h1 => absurd h1 (by decide)) (fun h1 => ?_)
  refine j_aload_n B dL_hands_18 2 rfl rfl ?_
  refine j_aload B dL_hands_19 8 rfl ?_
  refine j_iload_n B dL_hands_21 4 rfl rfl ?_
  refine j_lawI B 3 [.ref (ad 0), .ref (ca 5), .int (nI j)] (c_L_isFree l hl D cD cC cI cZ cL A σ φ n ad ca f hG j (by omega) (hm j (by omega))) q_287 q_288 q_0 q_289 hdL_isFree rfl ⟨Nat.le_of_ble_eq_true rfl, Nat.le_of_ble_eq_true rfl⟩ (Nat.le_of_ble_eq_true rfl) dL_hands_22 rfl (6) (36) ⟨Nat.le_of_ble_eq_true rfl, Nat.le_of_ble_eq_true rfl⟩ ⟨Nat.le_of_ble_eq_true rfl, Nat.le_of_ble_eq_true rfl⟩ (fun r2 _ h3 => ?_)
  have kj4 : ∀ v5 : Int32, (v5 = 1 ∧ (pgReach σ j ∧ σ 3 j = -1) ∨ v5 = 0 ∧ ¬ (pgReach σ j ∧ σ 3 j = -1)) → pgJ p l e rm_hands_0 s m args below meth cc9 13 A (pvW D cD cC cI cL A σ n ad φ ca f) (7) (42) Q 42 [(8, .int (σ 6 j)), (7, .int (σ 2 j)), (0, .ref (ad 0)), (1, .int 0), (2, .int (nI j)), (3, .int (nI k)), (4, .ref (ca 0)), (5, .ref (ca 1)), (6, .ref (ca 5))] (.int v5 :: []) := by
    intro v5 hv6
    rcases hv6 with ⟨rfl, h7⟩ | ⟨rfl, h7⟩
    · refine j_istore B (L' := [(9, .int 1), (8, .int (σ 6 j)), (7, .int (σ 2 j)), (0, .ref (ad 0)), (1, .int 0), (2, .int (nI j)), (3, .int (nI k)), (4, .ref (ca 0)), (5, .ref (ca 1)), (6, .ref (ca 5))]) dL_hands_42 (by decide) rfl ?_
      refine j_aload_n B dL_hands_44 3 rfl rfl ?_
      refine j_iconst B (v := 0) dL_hands_45 (by decide) ?_
      refine j_iload_n B dL_hands_46 5 rfl rfl ?_
      refine j_iload_n B dL_hands_47 6 rfl rfl ?_
      refine j_iconst B (v := 0) dL_hands_48 (by decide) ?_
      obtain ⟨t1, τ1, et, eτ, hS1, hI1, hE1, hx1, hA1, hB1, hC1⟩ := pv_offer h hj hk
      have hM := c_L_asks_0 l hl D cD cC cI cZ cL A σ φ n ad ca f hG (nI j) (nI k) 0 hS1
      rw [et, eτ] at hM
      refine j_lawW B 5 [.ref (ad 0), .int 0, .int (nI j), .int (nI k), .int 0] hM q_305 q_306 q_0 q_307 hdL_asks rfl ⟨Nat.le_of_ble_eq_true rfl, Nat.le_of_ble_eq_true rfl⟩ (Nat.le_of_ble_eq_true rfl) dL_hands_49 rfl (10) (60) ⟨Nat.le_of_ble_eq_true rfl, Nat.le_of_ble_eq_true rfl⟩ ⟨Nat.le_of_ble_eq_true rfl, Nat.le_of_ble_eq_true rfl⟩ (fun r8 _ h9 => ?_)
      rw [h9]
      clear hM h9 r8
      refine j_istore B (L' := [(10, .int t1), (9, .int 1), (8, .int (σ 6 j)), (7, .int (σ 2 j)), (0, .ref (ad 0)), (1, .int 0), (2, .int (nI j)), (3, .int (nI k)), (4, .ref (ca 0)), (5, .ref (ca 1)), (6, .ref (ca 5))]) dL_hands_52 (by decide) rfl ?_
      refine j_iload_n B dL_hands_54 7 rfl rfl ?_
      refine j_iload B dL_hands_55 3 rfl ?_
      refine j_icmp_ne B 87 dL_hands_57 (by decide) (fun h10 => ?_) (fun h10 => ?_)
      · refine j_iload B dL_hands_87 0 rfl ?_
        refine j_iload B dL_hands_89 1 rfl ?_
        refine j_if_eq B 99 dL_hands_91 (by decide) (fun h11 => absurd h11 (by decide)) (fun h11 => ?_)
        refine j_iload B dL_hands_94 3 rfl ?_
        refine j_goto B 101 dL_hands_96 (by decide) ?_
        refine j_icmp_ne B 151 dL_hands_101 (by decide) (fun h12 => (by clear B hret; grind : False).elim) (fun h12 => ?_)
        refine j_aload_n B dL_hands_104 4 rfl rfl ?_
        refine j_iload_n B dL_hands_105 6 rfl rfl ?_
        refine j_ask B (τ1 6 j) 1 [.int (nI j)] (c_X2_offeredTo l hl D cD cC cI cZ cL (pvA A ca) τ1 n ad hI1.1 (nI j)) (pv_askD hI1.1 (by omega) 6) q_268 q_269 q_270 q_1 q_271 hdX2_offeredTo rfl ⟨Nat.le_of_ble_eq_true rfl, Nat.le_of_ble_eq_true rfl⟩ (Nat.le_of_ble_eq_true rfl) dL_hands_106 rfl (11) (66) ⟨Nat.le_of_ble_eq_true rfl, Nat.le_of_ble_eq_true rfl⟩ ⟨Nat.le_of_ble_eq_true rfl, Nat.le_of_ble_eq_true rfl⟩ ?_
        refine j_iload B dL_hands_109 1 rfl ?_
        refine j_if_eq B 118 dL_hands_111 (by decide) (fun h13 => absurd h13 (by decide)) (fun h13 => ?_)
        refine j_iload_n B dL_hands_114 7 rfl rfl ?_
        refine j_goto B 120 dL_hands_115 (by decide) ?_
        refine j_icmp_ne B 151 dL_hands_120 (by decide) (fun h14 => (by clear B hret; grind : False).elim) (fun h14 => ?_)
        refine j_aload_n B dL_hands_123 4 rfl rfl ?_
        refine j_iload_n B dL_hands_124 6 rfl rfl ?_
        refine j_ask B (τ1 2 j) 1 [.int (nI j)] (c_X2_keeperOf l hl D cD cC cI cZ cL (pvA A ca) τ1 n ad hI1.1 (nI j)) (pv_askD hI1.1 (by omega) 2) q_241 q_242 q_243 q_1 q_244 hdX2_keeperOf rfl ⟨Nat.le_of_ble_eq_true rfl, Nat.le_of_ble_eq_true rfl⟩ (Nat.le_of_ble_eq_true rfl) dL_hands_125 rfl (12) (72) ⟨Nat.le_of_ble_eq_true rfl, Nat.le_of_ble_eq_true rfl⟩ ⟨Nat.le_of_ble_eq_true rfl, Nat.le_of_ble_eq_true rfl⟩ ?_
        refine j_iload B dL_hands_128 3 rfl ?_
        refine j_icmp_ne B 151 dL_hands_130 (by decide) (fun h15 => (by clear B hret; grind : False).elim) (fun h15 => ?_)
        refine j_aload_n B dL_hands_133 4 rfl rfl ?_
        refine j_aload B dL_hands_134 8 rfl ?_
        refine j_aload B dL_hands_136 9 rfl ?_
        refine j_lconst B (v := 1) dL_hands_138 (by decide) ?_
        refine j_iload_n B dL_hands_139 6 rfl rfl ?_
        refine j_lshl B dL_hands_140 ?_
        refine j_lawI B 4 [.ref (ad 0), .ref (ca 0), .ref (ca 1), .long ((1 : Int64) <<< ((nI j).toInt64 &&& 63))] (c_L_areSame l hl D cD cC cI cZ cL A τ1 φ n ad ca f hI1.1 (hc0) ((1 : Int64) <<< ((nI j).toInt64 &&& 63)) (pv_same1 (pv_j64 h hj) hd hE1 (fun _ => rfl))) q_429 q_430 q_0 q_431 hdL_areSame rfl ⟨Nat.le_of_ble_eq_true rfl, Nat.le_of_ble_eq_true rfl⟩ (Nat.le_of_ble_eq_true rfl) dL_hands_141 rfl (372) (2232) ⟨Nat.le_of_ble_eq_true rfl, Nat.le_of_ble_eq_true rfl⟩ ⟨Nat.le_of_ble_eq_true rfl, Nat.le_of_ble_eq_true rfl⟩ (fun r16 _ h17 => ?_)
        subst h17
        refine j_if_eq B 151 dL_hands_144 (by decide) (fun h18 => absurd h18 (by decide)) (fun h18 => ?_)
        refine j_iconst B (v := 1) dL_hands_147 (by decide) ?_
        refine j_goto B 152 dL_hands_148 (by decide) ?_
        exact hret 152 _ 1 (τ1, φ, f) (372) (2232) dL_hands_152 rfl (Nat.le_of_ble_eq_true rfl) (Nat.le_of_ble_eq_true rfl) ⟨rfl, pvI_le hI1 (by omega)⟩
      · refine j_iload B dL_hands_60 0 rfl ?_
        refine j_bipush B (v := (-9)) dL_hands_62 (by decide) ?_
        refine j_icmp_ne B 83 dL_hands_64 (by decide) (fun h19 => (by clear B hret; grind : False).elim) (fun h19 => ?_)
        refine j_aload_n B dL_hands_67 4 rfl rfl ?_
        refine j_aload B dL_hands_68 8 rfl ?_
        refine j_aload B dL_hands_70 9 rfl ?_
        refine j_lconst B (v := 0) dL_hands_72 (by decide) ?_
        refine j_lawI B 4 [.ref (ad 0), .ref (ca 0), .ref (ca 1), .long 0] (c_L_areSame l hl D cD cC cI cZ cL A τ1 φ n ad ca f hI1.1 (hc0) 0 (pv_same0 hd ((hA1 (by assumption)).2) (fun _ => rfl))) q_429 q_430 q_0 q_431 hdL_areSame rfl ⟨Nat.le_of_ble_eq_true rfl, Nat.le_of_ble_eq_true rfl⟩ (Nat.le_of_ble_eq_true rfl) dL_hands_73 rfl (370) (2220) ⟨Nat.le_of_ble_eq_true rfl, Nat.le_of_ble_eq_true rfl⟩ ⟨Nat.le_of_ble_eq_true rfl, Nat.le_of_ble_eq_true rfl⟩ (fun r20 _ h21 => ?_)
        subst h21
        refine j_if_eq B 83 dL_hands_76 (by decide) (fun h22 => absurd h22 (by decide)) (fun h22 => ?_)
        refine j_iconst B (v := 1) dL_hands_79 (by decide) ?_
        refine j_goto B 152 dL_hands_80 (by decide) ?_
        exact hret 152 _ 1 (τ1, φ, f) (370) (2220) dL_hands_152 rfl (Nat.le_of_ble_eq_true rfl) (Nat.le_of_ble_eq_true rfl) ⟨rfl, pvI_le hI1 (by omega)⟩
    · refine j_istore B (L' := [(9, .int 0), (8, .int (σ 6 j)), (7, .int (σ 2 j)), (0, .ref (ad 0)), (1, .int 0), (2, .int (nI j)), (3, .int (nI k)), (4, .ref (ca 0)), (5, .ref (ca 1)), (6, .ref (ca 5))]) dL_hands_42 (by decide) rfl ?_
      refine j_aload_n B dL_hands_44 3 rfl rfl ?_
      refine j_iconst B (v := 0) dL_hands_45 (by decide) ?_
      refine j_iload_n B dL_hands_46 5 rfl rfl ?_
      refine j_iload_n B dL_hands_47 6 rfl rfl ?_
      refine j_iconst B (v := 0) dL_hands_48 (by decide) ?_
      obtain ⟨t1, τ1, et, eτ, hS1, hI1, hE1, hx1, hA1, hB1, hC1⟩ := pv_offer h hj hk
      have hM := c_L_asks_0 l hl D cD cC cI cZ cL A σ φ n ad ca f hG (nI j) (nI k) 0 hS1
      rw [et, eτ] at hM
      refine j_lawW B 5 [.ref (ad 0), .int 0, .int (nI j), .int (nI k), .int 0] hM q_305 q_306 q_0 q_307 hdL_asks rfl ⟨Nat.le_of_ble_eq_true rfl, Nat.le_of_ble_eq_true rfl⟩ (Nat.le_of_ble_eq_true rfl) dL_hands_49 rfl (10) (60) ⟨Nat.le_of_ble_eq_true rfl, Nat.le_of_ble_eq_true rfl⟩ ⟨Nat.le_of_ble_eq_true rfl, Nat.le_of_ble_eq_true rfl⟩ (fun r23 _ h24 => ?_)
      rw [h24]
      clear hM h24 r23
      refine j_istore B (L' := [(10, .int t1), (9, .int 0), (8, .int (σ 6 j)), (7, .int (σ 2 j)), (0, .ref (ad 0)), (1, .int 0), (2, .int (nI j)), (3, .int (nI k)), (4, .ref (ca 0)), (5, .ref (ca 1)), (6, .ref (ca 5))]) dL_hands_52 (by decide) rfl ?_
      refine j_iload_n B dL_hands_54 7 rfl rfl ?_
      refine j_iload B dL_hands_55 3 rfl ?_
      refine j_icmp_ne B 87 dL_hands_57 (by decide) (fun h25 => ?_) (fun h25 => ?_)
      · refine j_iload B dL_hands_87 0 rfl ?_
        refine j_iload B dL_hands_89 1 rfl ?_
        refine j_if_eq B 99 dL_hands_91 (by decide) (fun h26 => ?_) (fun h26 => absurd h26 (by decide))
        refine j_bipush B (v := (-8)) dL_hands_99 (by decide) ?_
        refine j_icmp_ne B 151 dL_hands_101 (by decide) (fun h27 => (by clear B hret; grind : False).elim) (fun h27 => ?_)
        refine j_aload_n B dL_hands_104 4 rfl rfl ?_
        refine j_iload_n B dL_hands_105 6 rfl rfl ?_
        refine j_ask B (τ1 6 j) 1 [.int (nI j)] (c_X2_offeredTo l hl D cD cC cI cZ cL (pvA A ca) τ1 n ad hI1.1 (nI j)) (pv_askD hI1.1 (by omega) 6) q_268 q_269 q_270 q_1 q_271 hdX2_offeredTo rfl ⟨Nat.le_of_ble_eq_true rfl, Nat.le_of_ble_eq_true rfl⟩ (Nat.le_of_ble_eq_true rfl) dL_hands_106 rfl (11) (66) ⟨Nat.le_of_ble_eq_true rfl, Nat.le_of_ble_eq_true rfl⟩ ⟨Nat.le_of_ble_eq_true rfl, Nat.le_of_ble_eq_true rfl⟩ ?_
        refine j_iload B dL_hands_109 1 rfl ?_
        refine j_if_eq B 118 dL_hands_111 (by decide) (fun h28 => ?_) (fun h28 => absurd h28 (by decide))
        refine j_iload B dL_hands_118 2 rfl ?_
        refine j_icmp_ne B 151 dL_hands_120 (by decide) (fun h29 => (by clear B hret; grind : False).elim) (fun h29 => ?_)
        refine j_aload_n B dL_hands_123 4 rfl rfl ?_
        refine j_iload_n B dL_hands_124 6 rfl rfl ?_
        refine j_ask B (τ1 2 j) 1 [.int (nI j)] (c_X2_keeperOf l hl D cD cC cI cZ cL (pvA A ca) τ1 n ad hI1.1 (nI j)) (pv_askD hI1.1 (by omega) 2) q_241 q_242 q_243 q_1 q_244 hdX2_keeperOf rfl ⟨Nat.le_of_ble_eq_true rfl, Nat.le_of_ble_eq_true rfl⟩ (Nat.le_of_ble_eq_true rfl) dL_hands_125 rfl (12) (72) ⟨Nat.le_of_ble_eq_true rfl, Nat.le_of_ble_eq_true rfl⟩ ⟨Nat.le_of_ble_eq_true rfl, Nat.le_of_ble_eq_true rfl⟩ ?_
        refine j_iload B dL_hands_128 3 rfl ?_
        refine j_icmp_ne B 151 dL_hands_130 (by decide) (fun h30 => (by clear B hret; grind : False).elim) (fun h30 => ?_)
        refine j_aload_n B dL_hands_133 4 rfl rfl ?_
        refine j_aload B dL_hands_134 8 rfl ?_
        refine j_aload B dL_hands_136 9 rfl ?_
        refine j_lconst B (v := 1) dL_hands_138 (by decide) ?_
        refine j_iload_n B dL_hands_139 6 rfl rfl ?_
        refine j_lshl B dL_hands_140 ?_
        refine j_lawI B 4 [.ref (ad 0), .ref (ca 0), .ref (ca 1), .long ((1 : Int64) <<< ((nI j).toInt64 &&& 63))] (c_L_areSame l hl D cD cC cI cZ cL A τ1 φ n ad ca f hI1.1 (hc0) ((1 : Int64) <<< ((nI j).toInt64 &&& 63)) (pv_same1 (pv_j64 h hj) hd hE1 (fun _ => rfl))) q_429 q_430 q_0 q_431 hdL_areSame rfl ⟨Nat.le_of_ble_eq_true rfl, Nat.le_of_ble_eq_true rfl⟩ (Nat.le_of_ble_eq_true rfl) dL_hands_141 rfl (372) (2232) ⟨Nat.le_of_ble_eq_true rfl, Nat.le_of_ble_eq_true rfl⟩ ⟨Nat.le_of_ble_eq_true rfl, Nat.le_of_ble_eq_true rfl⟩ (fun r31 _ h32 => ?_)
        subst h32
        refine j_if_eq B 151 dL_hands_144 (by decide) (fun h33 => absurd h33 (by decide)) (fun h33 => ?_)
        refine j_iconst B (v := 1) dL_hands_147 (by decide) ?_
        refine j_goto B 152 dL_hands_148 (by decide) ?_
        exact hret 152 _ 1 (τ1, φ, f) (372) (2232) dL_hands_152 rfl (Nat.le_of_ble_eq_true rfl) (Nat.le_of_ble_eq_true rfl) ⟨rfl, pvI_le hI1 (by omega)⟩
      · refine j_iload B dL_hands_60 0 rfl ?_
        refine j_bipush B (v := (-9)) dL_hands_62 (by decide) ?_
        refine j_icmp_ne B 83 dL_hands_64 (by decide) (fun h34 => (by clear B hret; grind : False).elim) (fun h34 => ?_)
        refine j_aload_n B dL_hands_67 4 rfl rfl ?_
        refine j_aload B dL_hands_68 8 rfl ?_
        refine j_aload B dL_hands_70 9 rfl ?_
        refine j_lconst B (v := 0) dL_hands_72 (by decide) ?_
        refine j_lawI B 4 [.ref (ad 0), .ref (ca 0), .ref (ca 1), .long 0] (c_L_areSame l hl D cD cC cI cZ cL A τ1 φ n ad ca f hI1.1 (hc0) 0 (pv_same0 hd ((hA1 (by assumption)).2) (fun _ => rfl))) q_429 q_430 q_0 q_431 hdL_areSame rfl ⟨Nat.le_of_ble_eq_true rfl, Nat.le_of_ble_eq_true rfl⟩ (Nat.le_of_ble_eq_true rfl) dL_hands_73 rfl (370) (2220) ⟨Nat.le_of_ble_eq_true rfl, Nat.le_of_ble_eq_true rfl⟩ ⟨Nat.le_of_ble_eq_true rfl, Nat.le_of_ble_eq_true rfl⟩ (fun r35 _ h36 => ?_)
        subst h36
        refine j_if_eq B 83 dL_hands_76 (by decide) (fun h37 => absurd h37 (by decide)) (fun h37 => ?_)
        refine j_iconst B (v := 1) dL_hands_79 (by decide) ?_
        refine j_goto B 152 dL_hands_80 (by decide) ?_
        exact hret 152 _ 1 (τ1, φ, f) (370) (2220) dL_hands_152 rfl (Nat.le_of_ble_eq_true rfl) (Nat.le_of_ble_eq_true rfl) ⟨rfl, pvI_le hI1 (by omega)⟩
  rcases h3 with ⟨rfl, h38⟩ | ⟨rfl, h38⟩
  · refine j_if_eq B 41 dL_hands_25 (by decide) (fun h39 => absurd h39 (by decide)) (fun h39 => ?_)
    refine j_aload_n B dL_hands_28 2 rfl rfl ?_
    refine j_iload_n B dL_hands_29 4 rfl rfl ?_
    refine j_ask B (σ 3 j) 1 [.int (nI j)] (c_X2_crateOf l hl D cD cC cI cZ cL (pvA A ca) σ n ad hG (nI j)) (pv_askD hG (by omega) 3) q_254 q_255 q_256 q_1 q_257 hdX2_crateOf rfl ⟨Nat.le_of_ble_eq_true rfl, Nat.le_of_ble_eq_true rfl⟩ (Nat.le_of_ble_eq_true rfl) dL_hands_30 rfl (7) (42) ⟨Nat.le_of_ble_eq_true rfl, Nat.le_of_ble_eq_true rfl⟩ ⟨Nat.le_of_ble_eq_true rfl, Nat.le_of_ble_eq_true rfl⟩ ?_
    refine j_iconst B (v := (-1)) dL_hands_33 (by decide) ?_
    refine j_icmp_ne B 41 dL_hands_34 (by decide) (fun h40 => ?_) (fun h40 => ?_)
    · refine j_iconst B (v := 0) dL_hands_41 (by decide) ?_
      exact kj4 0 (Or.inr ⟨rfl, by clear B hret kj4; grind⟩)
    · refine j_iconst B (v := 1) dL_hands_37 (by decide) ?_
      refine j_goto B 42 dL_hands_38 (by decide) ?_
      exact kj4 1 (Or.inl ⟨rfl, by clear B hret kj4; grind⟩)
  · refine j_if_eq B 41 dL_hands_25 (by decide) (fun h41 => ?_) (fun h41 => absurd h41 (by decide))
    refine j_iconst B (v := 0) dL_hands_41 (by decide) ?_
    refine j_widen (k := (7)) (n := (42)) (Nat.le_of_ble_eq_true rfl) (Nat.le_of_ble_eq_true rfl) ?_
    exact kj4 0 (Or.inr ⟨rfl, by clear B hret kj4; grind⟩)
/-- hands_1 -/
abbrev rm_hands_1 : Room := { frames := 10, cells := 366, slots := 2196, locals := 172 }
set_option maxHeartbeats 4000000 in
set_option maxRecDepth 100000 in
theorem c_L_hands_1 (l : Launch) (hl : l.stackTraces = false) (D : va_G) (cD cC cI cZ cL : ClassId) (A : Nat → Prop) (σ φ : pgSt) (n : Nat) (ad ca : Nat → Nat) (f : Nat → Int64) (Bd : Nat) (h : pvI n σ φ (f 0) Bd) (hd : ∀ i, i < n → φ 1 i = pvE σ i) (j : Nat) (hj : j < n) (k : Nat) (hk : k < 8) (hf : σ 6 j ≠ -1) : Met l yL_hands (.code yL_hands cL_hands 13 (some .boolean) :: pgWd) rm_hands_1 (pgPc D (pgTys cD cC cI cZ cL) A (pvW D cD cC cI cL A σ n ad φ ca f) [.ref (ad 0), .int 1, .int (nI j), .int (nI k), .ref (ca 0), .ref (ca 1), .ref (ca 5)]) (va_Qi (fun (r : Int32) (u : pgSt × pgSt × (Nat → Int64)) => r = 1 ∧ pvI n u.1 u.2.1 (u.2.2 0) (Bd + 1)) (fun u t9 => (pvW D cD cC cI cL A u.1 n ad u.2.1 ca u.2.2) t9.heap) A) rm_hands_1.cells rm_hands_1.slots A := by
  refine pv_enter (own := RL) (by decide) rfl (Nat.le_of_ble_eq_true rfl) (fun p e s m args below meth cc9 Q B hret => ?_)
  have hG := h.1
  have hn60 : n ≤ 60 := hG.1
  have hc0 : φ 0 0 = nI n := h.2.1.1
  have hm := h.2.2.2.2.2.2
  have h60 : ¬ σ 6 j < 0 := by
    obtain ⟨q, hq, e6⟩ := ((h.2.2.1 j hj).2.2.1.resolve_left hf).1
    rw [e6]
    exact nI_pos (by omega)
  refine j_aload_n B dL_hands_0 0 rfl rfl ?_
  refine j_iload_n B dL_hands_1 2 rfl rfl ?_
  refine j_ask B (σ 2 j) 1 [.int (nI j)] (c_X2_keeperOf l hl D cD cC cI cZ cL (pvA A ca) σ n ad hG (nI j)) (pv_askD hG (by omega) 2) q_241 q_242 q_243 q_1 q_244 hdX2_keeperOf rfl ⟨Nat.le_of_ble_eq_true rfl, Nat.le_of_ble_eq_true rfl⟩ (Nat.le_of_ble_eq_true rfl) dL_hands_2 rfl (1) (6) ⟨Nat.le_of_ble_eq_true rfl, Nat.le_of_ble_eq_true rfl⟩ ⟨Nat.le_of_ble_eq_true rfl, Nat.le_of_ble_eq_true rfl⟩ ?_
  refine j_istore B (L' := [(7, .int (σ 2 j)), (0, .ref (ad 0)), (1, .int 1), (2, .int (nI j)), (3, .int (nI k)), (4, .ref (ca 0)), (5, .ref (ca 1)), (6, .ref (ca 5))]) dL_hands_5 (by decide) rfl ?_
  refine j_aload_n B dL_hands_7 1 rfl rfl ?_
  refine j_iload_n B dL_hands_8 3 rfl rfl ?_
  refine j_ask B (σ 6 j) 1 [.int (nI j)] (c_X2_offeredTo l hl D cD cC cI cZ cL (pvA A ca) σ n ad hG (nI j)) (pv_askD hG (by omega) 6) q_268 q_269 q_270 q_1 q_271 hdX2_offeredTo rfl ⟨Nat.le_of_ble_eq_true rfl, Nat.le_of_ble_eq_true rfl⟩ (Nat.le_of_ble_eq_true rfl) dL_hands_9 rfl (2) (12) ⟨Nat.le_of_ble_eq_true rfl, Nat.le_of_ble_eq_true rfl⟩ ⟨Nat.le_of_ble_eq_true rfl, Nat.le_of_ble_eq_true rfl⟩ ?_
  refine j_istore B (L' := [(8, .int (σ 6 j)), (7, .int (σ 2 j)), (0, .ref (ad 0)), (1, .int 1), (2, .int (nI j)), (3, .int (nI k)), (4, .ref (ca 0)), (5, .ref (ca 1)), (6, .ref (ca 5))]) dL_hands_12 (by decide) rfl ?_
  refine j_iload_n B dL_hands_14 3 rfl rfl ?_
  refine j_if_ne B 153 dL_hands_15 (by decide) (fun h1 => ?_) (fun h1 => absurd h1 (by decide))
  refine j_iload B dL_hands_153 0 rfl ?_
  refine j_if_lt B 162 dL_hands_155 (by decide) (fun h2 => absurd h2 h60) (fun h2 => ?_)
  refine j_iconst B (v := 1) dL_hands_158 (by decide) ?_
  refine j_goto B 163 dL_hands_159 (by decide) ?_
  refine j_istore B (L' := [(9, .int 1), (8, .int (σ 6 j)), (7, .int (σ 2 j)), (0, .ref (ad 0)), (1, .int 1), (2, .int (nI j)), (3, .int (nI k)), (4, .ref (ca 0)), (5, .ref (ca 1)), (6, .ref (ca 5))]) dL_hands_163 (by decide) rfl ?_
  refine j_iload_n B dL_hands_165 6 rfl rfl ?_
  refine j_iconst B (v := 2) dL_hands_166 (by decide) ?_
  refine j_remv B (nI (k % 2)) (pv_rem (b := 2) (by omega) (by omega) (by omega)) (by decide) dL_hands_167 ?_
  rcases (show k % 2 = 0 ∨ k % 2 = 1 by omega) with e2 | e2
  · rw [e2, show nI 0 = (0 : Int32) from rfl]
    refine j_istore B (L' := [(10, .int 0), (9, .int 1), (8, .int (σ 6 j)), (7, .int (σ 2 j)), (0, .ref (ad 0)), (1, .int 1), (2, .int (nI j)), (3, .int (nI k)), (4, .ref (ca 0)), (5, .ref (ca 1)), (6, .ref (ca 5))]) dL_hands_168 (by decide) rfl ?_
    refine j_aload_n B dL_hands_170 4 rfl rfl ?_
    refine j_iconst B (v := 1) dL_hands_171 (by decide) ?_
    refine j_iload_n B dL_hands_172 6 rfl rfl ?_
    refine j_iload B dL_hands_173 0 rfl ?_
    refine j_iconst B (v := 0) dL_hands_175 (by decide) ?_
    obtain ⟨t1, τ1, et, eτ, hS1, hg1, hI1, hE1, ht1, hx1, hy1⟩ := pv_answer0 h hj hf
    have hM := c_L_asks_1 l hl D cD cC cI cZ cL A σ φ n ad ca f hG (nI j) 0 0 0 (Or.inr ⟨by decide, rfl⟩) hS1
    rw [et, eτ] at hM
    refine j_lawW B 5 [.ref (ad 0), .int 1, .int (nI j), .int 0, .int 0] hM q_305 q_306 q_0 q_307 hdL_asks rfl ⟨Nat.le_of_ble_eq_true rfl, Nat.le_of_ble_eq_true rfl⟩ (Nat.le_of_ble_eq_true rfl) dL_hands_176 rfl (4) (24) ⟨Nat.le_of_ble_eq_true rfl, Nat.le_of_ble_eq_true rfl⟩ ⟨Nat.le_of_ble_eq_true rfl, Nat.le_of_ble_eq_true rfl⟩ (fun r3 _ h4 => ?_)
    rw [h4]
    clear hM h4 r3
    refine j_istore B (L' := [(11, .int t1), (10, .int 0), (9, .int 1), (8, .int (σ 6 j)), (7, .int (σ 2 j)), (0, .ref (ad 0)), (1, .int 1), (2, .int (nI j)), (3, .int (nI k)), (4, .ref (ca 0)), (5, .ref (ca 1)), (6, .ref (ca 5))]) dL_hands_179 (by decide) rfl ?_
    refine j_aload B dL_hands_181 9 rfl ?_
    refine j_iconst B (v := 1) dL_hands_183 (by decide) ?_
    refine j_dup2 B dL_hands_184 rfl rfl ?_
    refine j_pld B (k := 0) (j := 1) (v := φ 0 1) (by omega) rfl (show 1 < 5 by omega) rfl dL_hands_185 ?_
    refine j_iload B dL_hands_186 2 rfl ?_
    refine j_if_eq B 201 dL_hands_188 (by decide) (fun h5 => absurd h5 (by decide)) (fun h5 => ?_)
    refine j_iload B dL_hands_191 1 rfl ?_
    refine j_iconst B (v := 1) dL_hands_193 (by decide) ?_
    refine j_icmp_ne B 201 dL_hands_194 (by decide) (fun h6 => ?_) (fun h6 => absurd h6 (by decide))
    refine j_iconst B (v := 0) dL_hands_201 (by decide) ?_
    refine j_addv B ((φ 0 1) + 0) (rfl) dL_hands_202 ?_
    refine j_pst B (k := 0) (j := 1) (by omega) rfl (show 1 < 5 by omega) dL_hands_203 ?_
    refine j_iload B dL_hands_204 2 rfl ?_
    refine j_if_eq B 220 dL_hands_206 (by decide) (fun h7 => absurd h7 (by decide)) (fun h7 => ?_)
    refine j_iload B dL_hands_209 1 rfl ?_
    refine j_iconst B (v := 1) dL_hands_211 (by decide) ?_
    refine j_icmp_ne B 220 dL_hands_212 (by decide) (fun h8 => ?_) (fun h8 => absurd h8 (by decide))
    refine j_iload B dL_hands_220 4 rfl ?_
    refine j_istore B (L' := [(12, .int (σ 2 j)), (11, .int t1), (10, .int 0), (9, .int 1), (8, .int (σ 6 j)), (7, .int (σ 2 j)), (0, .ref (ad 0)), (1, .int 1), (2, .int (nI j)), (3, .int (nI k)), (4, .ref (ca 0)), (5, .ref (ca 1)), (6, .ref (ca 5))]) dL_hands_222 (by decide) rfl ?_
    refine j_iload B dL_hands_224 1 rfl ?_
    refine j_iload B dL_hands_226 3 rfl ?_
    refine j_if_eq B 236 dL_hands_228 (by decide) (fun h9 => absurd h9 (by decide)) (fun h9 => ?_)
    refine j_iload B dL_hands_231 0 rfl ?_
    refine j_goto B 238 dL_hands_233 (by decide) ?_
    refine j_icmp_ne B 278 dL_hands_238 (by decide) (fun h10 => (by clear B hret; grind : False).elim) (fun h10 => ?_)
    refine j_aload_n B dL_hands_241 6 rfl rfl ?_
    refine j_iload_n B dL_hands_242 8 rfl rfl ?_
    refine j_ask B (τ1 2 j) 1 [.int (nI j)] (c_X2_keeperOf l hl D cD cC cI cZ cL (pvA A ca) τ1 n ad hg1 (nI j)) (pv_askD hg1 (by omega) 2) q_241 q_242 q_243 q_1 q_244 hdX2_keeperOf rfl ⟨Nat.le_of_ble_eq_true rfl, Nat.le_of_ble_eq_true rfl⟩ (Nat.le_of_ble_eq_true rfl) dL_hands_243 rfl (5) (30) ⟨Nat.le_of_ble_eq_true rfl, Nat.le_of_ble_eq_true rfl⟩ ⟨Nat.le_of_ble_eq_true rfl, Nat.le_of_ble_eq_true rfl⟩ ?_
    refine j_iload B dL_hands_246 0 rfl ?_
    refine j_icmp_ne B 278 dL_hands_248 (by decide) (fun h11 => (by clear B hret; grind : False).elim) (fun h11 => ?_)
    refine j_aload_n B dL_hands_251 6 rfl rfl ?_
    refine j_iload_n B dL_hands_252 8 rfl rfl ?_
    refine j_ask B (τ1 6 j) 1 [.int (nI j)] (c_X2_offeredTo l hl D cD cC cI cZ cL (pvA A ca) τ1 n ad hg1 (nI j)) (pv_askD hg1 (by omega) 6) q_268 q_269 q_270 q_1 q_271 hdX2_offeredTo rfl ⟨Nat.le_of_ble_eq_true rfl, Nat.le_of_ble_eq_true rfl⟩ (Nat.le_of_ble_eq_true rfl) dL_hands_253 rfl (6) (36) ⟨Nat.le_of_ble_eq_true rfl, Nat.le_of_ble_eq_true rfl⟩ ⟨Nat.le_of_ble_eq_true rfl, Nat.le_of_ble_eq_true rfl⟩ ?_
    refine j_iconst B (v := (-1)) dL_hands_256 (by decide) ?_
    refine j_icmp_ne B 278 dL_hands_257 (by decide) (fun h12 => (by clear B hret; grind : False).elim) (fun h12 => ?_)
    refine j_aload_n B dL_hands_260 6 rfl rfl ?_
    refine j_aload B dL_hands_261 10 rfl ?_
    refine j_aload B dL_hands_263 11 rfl ?_
    refine j_lconst B (v := 1) dL_hands_265 (by decide) ?_
    refine j_iload_n B dL_hands_266 8 rfl rfl ?_
    refine j_lshl B dL_hands_267 ?_
    refine j_lawI B 4 [.ref (ad 0), .ref (ca 0), .ref (ca 1), .long ((1 : Int64) <<< ((nI j).toInt64 &&& 63))] (c_L_areSame l hl D cD cC cI cZ cL A τ1 (pgU φ 0 1 ((φ 0 1) + 0)) n ad ca f hg1 (by simpa [pgU] using hc0) ((1 : Int64) <<< ((nI j).toInt64 &&& 63)) (pv_same1 (pv_j64 h hj) hd hE1 (fun _ => (by simp [pgU])))) q_429 q_430 q_0 q_431 hdL_areSame rfl ⟨Nat.le_of_ble_eq_true rfl, Nat.le_of_ble_eq_true rfl⟩ (Nat.le_of_ble_eq_true rfl) dL_hands_268 rfl (366) (2196) ⟨Nat.le_of_ble_eq_true rfl, Nat.le_of_ble_eq_true rfl⟩ ⟨Nat.le_of_ble_eq_true rfl, Nat.le_of_ble_eq_true rfl⟩ (fun r13 _ h14 => ?_)
    subst h14
    refine j_if_eq B 278 dL_hands_271 (by decide) (fun h15 => absurd h15 (by decide)) (fun h15 => ?_)
    refine j_iconst B (v := 1) dL_hands_274 (by decide) ?_
    refine j_goto B 279 dL_hands_275 (by decide) ?_
    exact hret 279 _ 1 (τ1, pgU φ 0 1 ((φ 0 1) + 0), f) (366) (2196) dL_hands_279 rfl (Nat.le_of_ble_eq_true rfl) (Nat.le_of_ble_eq_true rfl) ⟨rfl, pvI_le hI1 (by omega)⟩
  · rw [e2, show nI 1 = (1 : Int32) from rfl]
    refine j_istore B (L' := [(10, .int 1), (9, .int 1), (8, .int (σ 6 j)), (7, .int (σ 2 j)), (0, .ref (ad 0)), (1, .int 1), (2, .int (nI j)), (3, .int (nI k)), (4, .ref (ca 0)), (5, .ref (ca 1)), (6, .ref (ca 5))]) dL_hands_168 (by decide) rfl ?_
    refine j_aload_n B dL_hands_170 4 rfl rfl ?_
    refine j_iconst B (v := 1) dL_hands_171 (by decide) ?_
    refine j_iload_n B dL_hands_172 6 rfl rfl ?_
    refine j_iload B dL_hands_173 0 rfl ?_
    refine j_iconst B (v := 0) dL_hands_175 (by decide) ?_
    obtain ⟨t1, τ1, et, eτ, hS1, hg1, hI1, hE1, ht1, hx1, hy1⟩ := pv_answer1 h hj hf
    have hM := c_L_asks_1 l hl D cD cC cI cZ cL A σ φ n ad ca f hG (nI j) 1 0 1 (Or.inl ⟨by decide, rfl⟩) hS1
    rw [et, eτ] at hM
    refine j_lawW B 5 [.ref (ad 0), .int 1, .int (nI j), .int 1, .int 0] hM q_305 q_306 q_0 q_307 hdL_asks rfl ⟨Nat.le_of_ble_eq_true rfl, Nat.le_of_ble_eq_true rfl⟩ (Nat.le_of_ble_eq_true rfl) dL_hands_176 rfl (4) (24) ⟨Nat.le_of_ble_eq_true rfl, Nat.le_of_ble_eq_true rfl⟩ ⟨Nat.le_of_ble_eq_true rfl, Nat.le_of_ble_eq_true rfl⟩ (fun r16 _ h17 => ?_)
    rw [h17]
    clear hM h17 r16
    refine j_istore B (L' := [(11, .int t1), (10, .int 1), (9, .int 1), (8, .int (σ 6 j)), (7, .int (σ 2 j)), (0, .ref (ad 0)), (1, .int 1), (2, .int (nI j)), (3, .int (nI k)), (4, .ref (ca 0)), (5, .ref (ca 1)), (6, .ref (ca 5))]) dL_hands_179 (by decide) rfl ?_
    refine j_aload B dL_hands_181 9 rfl ?_
    refine j_iconst B (v := 1) dL_hands_183 (by decide) ?_
    refine j_dup2 B dL_hands_184 rfl rfl ?_
    refine j_pld B (k := 0) (j := 1) (v := φ 0 1) (by omega) rfl (show 1 < 5 by omega) rfl dL_hands_185 ?_
    refine j_iload B dL_hands_186 2 rfl ?_
    refine j_if_eq B 201 dL_hands_188 (by decide) (fun h18 => absurd h18 (by decide)) (fun h18 => ?_)
    refine j_iload B dL_hands_191 1 rfl ?_
    refine j_iconst B (v := 1) dL_hands_193 (by decide) ?_
    refine j_icmp_ne B 201 dL_hands_194 (by decide) (fun h19 => absurd h19 (by decide)) (fun h19 => ?_)
    refine j_iconst B (v := 1) dL_hands_197 (by decide) ?_
    refine j_goto B 202 dL_hands_198 (by decide) ?_
    refine j_addv B ((φ 0 1) + 1) (rfl) dL_hands_202 ?_
    refine j_pst B (k := 0) (j := 1) (by omega) rfl (show 1 < 5 by omega) dL_hands_203 ?_
    refine j_iload B dL_hands_204 2 rfl ?_
    refine j_if_eq B 220 dL_hands_206 (by decide) (fun h20 => absurd h20 (by decide)) (fun h20 => ?_)
    refine j_iload B dL_hands_209 1 rfl ?_
    refine j_iconst B (v := 1) dL_hands_211 (by decide) ?_
    refine j_icmp_ne B 220 dL_hands_212 (by decide) (fun h21 => absurd h21 (by decide)) (fun h21 => ?_)
    refine j_iload B dL_hands_215 3 rfl ?_
    refine j_goto B 222 dL_hands_217 (by decide) ?_
    refine j_istore B (L' := [(12, .int (σ 6 j)), (11, .int t1), (10, .int 1), (9, .int 1), (8, .int (σ 6 j)), (7, .int (σ 2 j)), (0, .ref (ad 0)), (1, .int 1), (2, .int (nI j)), (3, .int (nI k)), (4, .ref (ca 0)), (5, .ref (ca 1)), (6, .ref (ca 5))]) dL_hands_222 (by decide) rfl ?_
    refine j_iload B dL_hands_224 1 rfl ?_
    refine j_iload B dL_hands_226 3 rfl ?_
    refine j_if_eq B 236 dL_hands_228 (by decide) (fun h22 => absurd h22 (by decide)) (fun h22 => ?_)
    refine j_iload B dL_hands_231 0 rfl ?_
    refine j_goto B 238 dL_hands_233 (by decide) ?_
    refine j_icmp_ne B 278 dL_hands_238 (by decide) (fun h23 => (by clear B hret; grind : False).elim) (fun h23 => ?_)
    refine j_aload_n B dL_hands_241 6 rfl rfl ?_
    refine j_iload_n B dL_hands_242 8 rfl rfl ?_
    refine j_ask B (τ1 2 j) 1 [.int (nI j)] (c_X2_keeperOf l hl D cD cC cI cZ cL (pvA A ca) τ1 n ad hg1 (nI j)) (pv_askD hg1 (by omega) 2) q_241 q_242 q_243 q_1 q_244 hdX2_keeperOf rfl ⟨Nat.le_of_ble_eq_true rfl, Nat.le_of_ble_eq_true rfl⟩ (Nat.le_of_ble_eq_true rfl) dL_hands_243 rfl (5) (30) ⟨Nat.le_of_ble_eq_true rfl, Nat.le_of_ble_eq_true rfl⟩ ⟨Nat.le_of_ble_eq_true rfl, Nat.le_of_ble_eq_true rfl⟩ ?_
    refine j_iload B dL_hands_246 0 rfl ?_
    refine j_icmp_ne B 278 dL_hands_248 (by decide) (fun h24 => (by clear B hret; grind : False).elim) (fun h24 => ?_)
    refine j_aload_n B dL_hands_251 6 rfl rfl ?_
    refine j_iload_n B dL_hands_252 8 rfl rfl ?_
    refine j_ask B (τ1 6 j) 1 [.int (nI j)] (c_X2_offeredTo l hl D cD cC cI cZ cL (pvA A ca) τ1 n ad hg1 (nI j)) (pv_askD hg1 (by omega) 6) q_268 q_269 q_270 q_1 q_271 hdX2_offeredTo rfl ⟨Nat.le_of_ble_eq_true rfl, Nat.le_of_ble_eq_true rfl⟩ (Nat.le_of_ble_eq_true rfl) dL_hands_253 rfl (6) (36) ⟨Nat.le_of_ble_eq_true rfl, Nat.le_of_ble_eq_true rfl⟩ ⟨Nat.le_of_ble_eq_true rfl, Nat.le_of_ble_eq_true rfl⟩ ?_
    refine j_iconst B (v := (-1)) dL_hands_256 (by decide) ?_
    refine j_icmp_ne B 278 dL_hands_257 (by decide) (fun h25 => (by clear B hret; grind : False).elim) (fun h25 => ?_)
    refine j_aload_n B dL_hands_260 6 rfl rfl ?_
    refine j_aload B dL_hands_261 10 rfl ?_
    refine j_aload B dL_hands_263 11 rfl ?_
    refine j_lconst B (v := 1) dL_hands_265 (by decide) ?_
    refine j_iload_n B dL_hands_266 8 rfl rfl ?_
    refine j_lshl B dL_hands_267 ?_
    refine j_lawI B 4 [.ref (ad 0), .ref (ca 0), .ref (ca 1), .long ((1 : Int64) <<< ((nI j).toInt64 &&& 63))] (c_L_areSame l hl D cD cC cI cZ cL A τ1 (pgU φ 0 1 ((φ 0 1) + 1)) n ad ca f hg1 (by simpa [pgU] using hc0) ((1 : Int64) <<< ((nI j).toInt64 &&& 63)) (pv_same1 (pv_j64 h hj) hd hE1 (fun _ => (by simp [pgU])))) q_429 q_430 q_0 q_431 hdL_areSame rfl ⟨Nat.le_of_ble_eq_true rfl, Nat.le_of_ble_eq_true rfl⟩ (Nat.le_of_ble_eq_true rfl) dL_hands_268 rfl (366) (2196) ⟨Nat.le_of_ble_eq_true rfl, Nat.le_of_ble_eq_true rfl⟩ ⟨Nat.le_of_ble_eq_true rfl, Nat.le_of_ble_eq_true rfl⟩ (fun r26 _ h27 => ?_)
    subst h27
    refine j_if_eq B 278 dL_hands_271 (by decide) (fun h28 => absurd h28 (by decide)) (fun h28 => ?_)
    refine j_iconst B (v := 1) dL_hands_274 (by decide) ?_
    refine j_goto B 279 dL_hands_275 (by decide) ?_
    exact hret 279 _ 1 (τ1, pgU φ 0 1 ((φ 0 1) + 1), f) (366) (2196) dL_hands_279 rfl (Nat.le_of_ble_eq_true rfl) (Nat.le_of_ble_eq_true rfl) ⟨rfl, pvI_le hI1 (by omega)⟩
/-- packs_2 -/
abbrev rm_packs_2 : Room := { frames := 10, cells := 433, slots := 2598, locals := 172 }
set_option maxHeartbeats 4000000 in
set_option maxRecDepth 100000 in
theorem c_L_packs_2 (l : Launch) (hl : l.stackTraces = false) (D : va_G) (cD cC cI cZ cL : ClassId) (A : Nat → Prop) (σ φ : pgSt) (n : Nat) (ad ca : Nat → Nat) (f : Nat → Int64) (Bd : Nat) (h : pvI n σ φ (f 0) Bd) (hd : ∀ i, i < n → φ 1 i = pvE σ i) (j : Nat) (hj : j < n) (c : Nat) (hc : c < 4) : Met l yL_packs (.code yL_packs cL_packs 10 (some .boolean) :: pgWd) rm_packs_2 (pgPc D (pgTys cD cC cI cZ cL) A (pvW D cD cC cI cL A σ n ad φ ca f) [.ref (ad 0), .int 2, .int (nI j), .int (nI c), .ref (ca 0), .ref (ca 1), .ref (ca 5)]) (va_Qi (fun (r : Int32) (u : pgSt × pgSt × (Nat → Int64)) => r = 1 ∧ pvI n u.1 u.2.1 (u.2.2 0) (Bd + 1)) (fun u t9 => (pvW D cD cC cI cL A u.1 n ad u.2.1 ca u.2.2) t9.heap) A) rm_packs_2.cells rm_packs_2.slots A := by
  refine pv_enter (own := RL) (by decide) rfl (Nat.le_of_ble_eq_true rfl) (fun p e s m args below meth cc9 Q B hret => ?_)
  have hG := h.1
  have hn60 : n ≤ 60 := hG.1
  have hc0 : φ 0 0 = nI n := h.2.1.1
  have hm := h.2.2.2.2.2.2
  refine j_aload_n B dL_packs_0 0 rfl rfl ?_
  refine j_iload_n B dL_packs_1 2 rfl rfl ?_
  refine j_ask B (σ 3 j) 1 [.int (nI j)] (c_X2_crateOf l hl D cD cC cI cZ cL (pvA A ca) σ n ad hG (nI j)) (pv_askD hG (by omega) 3) q_254 q_255 q_256 q_1 q_257 hdX2_crateOf rfl ⟨Nat.le_of_ble_eq_true rfl, Nat.le_of_ble_eq_true rfl⟩ (Nat.le_of_ble_eq_true rfl) dL_packs_2 rfl (1) (6) ⟨Nat.le_of_ble_eq_true rfl, Nat.le_of_ble_eq_true rfl⟩ ⟨Nat.le_of_ble_eq_true rfl, Nat.le_of_ble_eq_true rfl⟩ ?_
  refine j_istore B (L' := [(7, .int (σ 3 j)), (0, .ref (ad 0)), (1, .int 2), (2, .int (nI j)), (3, .int (nI c)), (4, .ref (ca 0)), (5, .ref (ca 1)), (6, .ref (ca 5))]) dL_packs_5 (by decide) rfl ?_
  refine j_iload_n B dL_packs_7 2 rfl rfl ?_
  refine j_iconst B (v := 2) dL_packs_8 (by decide) ?_
  refine j_icmp_ne B 130 dL_packs_9 (by decide) (fun h1 => absurd h1 (by decide)) (fun h1 => ?_)
  refine j_aload_n B dL_packs_12 1 rfl rfl ?_
  refine j_aload B dL_packs_13 7 rfl ?_
  refine j_iload_n B dL_packs_15 3 rfl rfl ?_
  refine j_lawI B 3 [.ref (ad 0), .ref (ca 5), .int (nI j)] (c_L_isFree l hl D cD cC cI cZ cL A σ φ n ad ca f hG j (by omega) (hm j (by omega))) q_287 q_288 q_0 q_289 hdL_isFree rfl ⟨Nat.le_of_ble_eq_true rfl, Nat.le_of_ble_eq_true rfl⟩ (Nat.le_of_ble_eq_true rfl) dL_packs_16 rfl (5) (30) ⟨Nat.le_of_ble_eq_true rfl, Nat.le_of_ble_eq_true rfl⟩ ⟨Nat.le_of_ble_eq_true rfl, Nat.le_of_ble_eq_true rfl⟩ (fun r2 _ h3 => ?_)
  have kj4 : ∀ v5 : Int32, (v5 = 1 ∧ (pgReach σ j ∧ σ 3 j = -1 ∧ σ 11 c = -1 ∧ σ 10 c = σ 2 j) ∨ v5 = 0 ∧ ¬ (pgReach σ j ∧ σ 3 j = -1 ∧ σ 11 c = -1 ∧ σ 10 c = σ 2 j)) → pgJ p l e rm_packs_2 s m args below meth cc9 10 A (pvW D cD cC cI cL A σ n ad φ ca f) (8) (48) Q 55 [(7, .int (σ 3 j)), (0, .ref (ad 0)), (1, .int 2), (2, .int (nI j)), (3, .int (nI c)), (4, .ref (ca 0)), (5, .ref (ca 1)), (6, .ref (ca 5))] (.int v5 :: []) := by
    intro v5 hv6
    rcases hv6 with ⟨rfl, h7⟩ | ⟨rfl, h7⟩
    · refine j_istore B (L' := [(8, .int 1), (7, .int (σ 3 j)), (0, .ref (ad 0)), (1, .int 2), (2, .int (nI j)), (3, .int (nI c)), (4, .ref (ca 0)), (5, .ref (ca 1)), (6, .ref (ca 5))]) dL_packs_55 (by decide) rfl ?_
      refine j_aload_n B dL_packs_57 2 rfl rfl ?_
      refine j_aload B dL_packs_58 6 rfl ?_
      refine j_iload_n B dL_packs_60 5 rfl rfl ?_
      refine j_lawI B 3 [.ref (ad 0), .ref (ca 0), .int (nI c)] (c_L_countIn l hl D cD cC cI cZ cL A σ φ n ad ca f hG (hc0) (nI c)) q_439 q_440 q_0 q_441 hdL_countIn rfl ⟨Nat.le_of_ble_eq_true rfl, Nat.le_of_ble_eq_true rfl⟩ (Nat.le_of_ble_eq_true rfl) dL_packs_61 rfl (68) (408) ⟨Nat.le_of_ble_eq_true rfl, Nat.le_of_ble_eq_true rfl⟩ ⟨Nat.le_of_ble_eq_true rfl, Nat.le_of_ble_eq_true rfl⟩ (fun r8 _ h9 => ?_)
      subst h9
      refine j_istore B (L' := [(9, .int (pgCnt σ n (nI c))), (8, .int 1), (7, .int (σ 3 j)), (0, .ref (ad 0)), (1, .int 2), (2, .int (nI j)), (3, .int (nI c)), (4, .ref (ca 0)), (5, .ref (ca 1)), (6, .ref (ca 5))]) dL_packs_64 (by decide) rfl ?_
      refine j_aload_n B dL_packs_66 3 rfl rfl ?_
      refine j_iconst B (v := 2) dL_packs_67 (by decide) ?_
      refine j_iload_n B dL_packs_68 5 rfl rfl ?_
      refine j_iload_n B dL_packs_69 6 rfl rfl ?_
      refine j_iconst B (v := 0) dL_packs_70 (by decide) ?_
      obtain ⟨t1, τ1, et, eτ, hS1, hI1, hE1, hA1, hB1⟩ := pv_pack h hj (show c < 10 by omega)
      have hM := c_L_asks_2 l hl D cD cC cI cZ cL A σ φ n ad ca f hG (nI j) (nI c) 0 hS1
      rw [et, eτ] at hM
      refine j_lawW B 5 [.ref (ad 0), .int 2, .int (nI j), .int (nI c), .int 0] hM q_305 q_306 q_0 q_307 hdL_asks rfl ⟨Nat.le_of_ble_eq_true rfl, Nat.le_of_ble_eq_true rfl⟩ (Nat.le_of_ble_eq_true rfl) dL_packs_71 rfl (72) (432) ⟨Nat.le_of_ble_eq_true rfl, Nat.le_of_ble_eq_true rfl⟩ ⟨Nat.le_of_ble_eq_true rfl, Nat.le_of_ble_eq_true rfl⟩ (fun r10 _ h11 => ?_)
      rw [h11]
      clear hM h11 r10
      refine j_iload B dL_packs_74 1 rfl ?_
      refine j_if_eq B 86 dL_packs_76 (by decide) (fun h12 => absurd h12 (by decide)) (fun h12 => ?_)
      refine j_iload B dL_packs_79 0 rfl ?_
      refine j_iconst B (v := 1) dL_packs_81 (by decide) ?_
      refine j_addv B ((pgCnt σ n (nI c)) + 1) (rfl) dL_packs_82 ?_
      refine j_goto B 88 dL_packs_83 (by decide) ?_
      refine j_icmp_ne B 128 dL_packs_88 (by decide) (fun h13 => (by clear B hret; grind : False).elim) (fun h13 => ?_)
      refine j_aload_n B dL_packs_91 3 rfl rfl ?_
      refine j_iload_n B dL_packs_92 5 rfl rfl ?_
      refine j_ask B (τ1 3 j) 1 [.int (nI j)] (c_X2_crateOf l hl D cD cC cI cZ cL (pvA A ca) τ1 n ad hI1.1 (nI j)) (pv_askD hI1.1 (by omega) 3) q_254 q_255 q_256 q_1 q_257 hdX2_crateOf rfl ⟨Nat.le_of_ble_eq_true rfl, Nat.le_of_ble_eq_true rfl⟩ (Nat.le_of_ble_eq_true rfl) dL_packs_93 rfl (73) (438) ⟨Nat.le_of_ble_eq_true rfl, Nat.le_of_ble_eq_true rfl⟩ ⟨Nat.le_of_ble_eq_true rfl, Nat.le_of_ble_eq_true rfl⟩ ?_
      refine j_iload B dL_packs_96 1 rfl ?_
      refine j_if_eq B 105 dL_packs_98 (by decide) (fun h14 => absurd h14 (by decide)) (fun h14 => ?_)
      refine j_iload_n B dL_packs_101 6 rfl rfl ?_
      refine j_goto B 107 dL_packs_102 (by decide) ?_
      refine j_icmp_ne B 128 dL_packs_107 (by decide) (fun h15 => (by clear B hret; grind : False).elim) (fun h15 => ?_)
      refine j_aload_n B dL_packs_110 3 rfl rfl ?_
      refine j_aload B dL_packs_111 7 rfl ?_
      refine j_aload B dL_packs_113 8 rfl ?_
      refine j_lconst B (v := 1) dL_packs_115 (by decide) ?_
      refine j_iload_n B dL_packs_116 5 rfl rfl ?_
      refine j_lshl B dL_packs_117 ?_
      refine j_lawI B 4 [.ref (ad 0), .ref (ca 0), .ref (ca 1), .long ((1 : Int64) <<< ((nI j).toInt64 &&& 63))] (c_L_areSame l hl D cD cC cI cZ cL A τ1 φ n ad ca f hI1.1 (hc0) ((1 : Int64) <<< ((nI j).toInt64 &&& 63)) (pv_same1 (pv_j64 h hj) hd hE1 (fun _ => rfl))) q_429 q_430 q_0 q_431 hdL_areSame rfl ⟨Nat.le_of_ble_eq_true rfl, Nat.le_of_ble_eq_true rfl⟩ (Nat.le_of_ble_eq_true rfl) dL_packs_118 rfl (433) (2598) ⟨Nat.le_of_ble_eq_true rfl, Nat.le_of_ble_eq_true rfl⟩ ⟨Nat.le_of_ble_eq_true rfl, Nat.le_of_ble_eq_true rfl⟩ (fun r16 _ h17 => ?_)
      subst h17
      refine j_if_eq B 128 dL_packs_121 (by decide) (fun h18 => absurd h18 (by decide)) (fun h18 => ?_)
      refine j_iconst B (v := 1) dL_packs_124 (by decide) ?_
      refine j_goto B 129 dL_packs_125 (by decide) ?_
      exact hret 129 _ 1 (τ1, φ, f) (433) (2598) dL_packs_129 rfl (Nat.le_of_ble_eq_true rfl) (Nat.le_of_ble_eq_true rfl) ⟨rfl, pvI_le hI1 (by omega)⟩
    · refine j_istore B (L' := [(8, .int 0), (7, .int (σ 3 j)), (0, .ref (ad 0)), (1, .int 2), (2, .int (nI j)), (3, .int (nI c)), (4, .ref (ca 0)), (5, .ref (ca 1)), (6, .ref (ca 5))]) dL_packs_55 (by decide) rfl ?_
      refine j_aload_n B dL_packs_57 2 rfl rfl ?_
      refine j_aload B dL_packs_58 6 rfl ?_
      refine j_iload_n B dL_packs_60 5 rfl rfl ?_
      refine j_lawI B 3 [.ref (ad 0), .ref (ca 0), .int (nI c)] (c_L_countIn l hl D cD cC cI cZ cL A σ φ n ad ca f hG (hc0) (nI c)) q_439 q_440 q_0 q_441 hdL_countIn rfl ⟨Nat.le_of_ble_eq_true rfl, Nat.le_of_ble_eq_true rfl⟩ (Nat.le_of_ble_eq_true rfl) dL_packs_61 rfl (68) (408) ⟨Nat.le_of_ble_eq_true rfl, Nat.le_of_ble_eq_true rfl⟩ ⟨Nat.le_of_ble_eq_true rfl, Nat.le_of_ble_eq_true rfl⟩ (fun r19 _ h20 => ?_)
      subst h20
      refine j_istore B (L' := [(9, .int (pgCnt σ n (nI c))), (8, .int 0), (7, .int (σ 3 j)), (0, .ref (ad 0)), (1, .int 2), (2, .int (nI j)), (3, .int (nI c)), (4, .ref (ca 0)), (5, .ref (ca 1)), (6, .ref (ca 5))]) dL_packs_64 (by decide) rfl ?_
      refine j_aload_n B dL_packs_66 3 rfl rfl ?_
      refine j_iconst B (v := 2) dL_packs_67 (by decide) ?_
      refine j_iload_n B dL_packs_68 5 rfl rfl ?_
      refine j_iload_n B dL_packs_69 6 rfl rfl ?_
      refine j_iconst B (v := 0) dL_packs_70 (by decide) ?_
      obtain ⟨t1, τ1, et, eτ, hS1, hI1, hE1, hA1, hB1⟩ := pv_pack h hj (show c < 10 by omega)
      have hM := c_L_asks_2 l hl D cD cC cI cZ cL A σ φ n ad ca f hG (nI j) (nI c) 0 hS1
      rw [et, eτ] at hM
      refine j_lawW B 5 [.ref (ad 0), .int 2, .int (nI j), .int (nI c), .int 0] hM q_305 q_306 q_0 q_307 hdL_asks rfl ⟨Nat.le_of_ble_eq_true rfl, Nat.le_of_ble_eq_true rfl⟩ (Nat.le_of_ble_eq_true rfl) dL_packs_71 rfl (72) (432) ⟨Nat.le_of_ble_eq_true rfl, Nat.le_of_ble_eq_true rfl⟩ ⟨Nat.le_of_ble_eq_true rfl, Nat.le_of_ble_eq_true rfl⟩ (fun r21 _ h22 => ?_)
      rw [h22]
      clear hM h22 r21
      refine j_iload B dL_packs_74 1 rfl ?_
      refine j_if_eq B 86 dL_packs_76 (by decide) (fun h23 => ?_) (fun h23 => absurd h23 (by decide))
      refine j_bipush B (v := (-8)) dL_packs_86 (by decide) ?_
      refine j_icmp_ne B 128 dL_packs_88 (by decide) (fun h24 => (by clear B hret; grind : False).elim) (fun h24 => ?_)
      refine j_aload_n B dL_packs_91 3 rfl rfl ?_
      refine j_iload_n B dL_packs_92 5 rfl rfl ?_
      refine j_ask B (τ1 3 j) 1 [.int (nI j)] (c_X2_crateOf l hl D cD cC cI cZ cL (pvA A ca) τ1 n ad hI1.1 (nI j)) (pv_askD hI1.1 (by omega) 3) q_254 q_255 q_256 q_1 q_257 hdX2_crateOf rfl ⟨Nat.le_of_ble_eq_true rfl, Nat.le_of_ble_eq_true rfl⟩ (Nat.le_of_ble_eq_true rfl) dL_packs_93 rfl (73) (438) ⟨Nat.le_of_ble_eq_true rfl, Nat.le_of_ble_eq_true rfl⟩ ⟨Nat.le_of_ble_eq_true rfl, Nat.le_of_ble_eq_true rfl⟩ ?_
      refine j_iload B dL_packs_96 1 rfl ?_
      refine j_if_eq B 105 dL_packs_98 (by decide) (fun h25 => ?_) (fun h25 => absurd h25 (by decide))
      refine j_iload B dL_packs_105 2 rfl ?_
      refine j_icmp_ne B 128 dL_packs_107 (by decide) (fun h26 => (by clear B hret; grind : False).elim) (fun h26 => ?_)
      refine j_aload_n B dL_packs_110 3 rfl rfl ?_
      refine j_aload B dL_packs_111 7 rfl ?_
      refine j_aload B dL_packs_113 8 rfl ?_
      refine j_lconst B (v := 1) dL_packs_115 (by decide) ?_
      refine j_iload_n B dL_packs_116 5 rfl rfl ?_
      refine j_lshl B dL_packs_117 ?_
      refine j_lawI B 4 [.ref (ad 0), .ref (ca 0), .ref (ca 1), .long ((1 : Int64) <<< ((nI j).toInt64 &&& 63))] (c_L_areSame l hl D cD cC cI cZ cL A τ1 φ n ad ca f hI1.1 (hc0) ((1 : Int64) <<< ((nI j).toInt64 &&& 63)) (pv_same1 (pv_j64 h hj) hd hE1 (fun _ => rfl))) q_429 q_430 q_0 q_431 hdL_areSame rfl ⟨Nat.le_of_ble_eq_true rfl, Nat.le_of_ble_eq_true rfl⟩ (Nat.le_of_ble_eq_true rfl) dL_packs_118 rfl (433) (2598) ⟨Nat.le_of_ble_eq_true rfl, Nat.le_of_ble_eq_true rfl⟩ ⟨Nat.le_of_ble_eq_true rfl, Nat.le_of_ble_eq_true rfl⟩ (fun r27 _ h28 => ?_)
      subst h28
      refine j_if_eq B 128 dL_packs_121 (by decide) (fun h29 => absurd h29 (by decide)) (fun h29 => ?_)
      refine j_iconst B (v := 1) dL_packs_124 (by decide) ?_
      refine j_goto B 129 dL_packs_125 (by decide) ?_
      exact hret 129 _ 1 (τ1, φ, f) (433) (2598) dL_packs_129 rfl (Nat.le_of_ble_eq_true rfl) (Nat.le_of_ble_eq_true rfl) ⟨rfl, pvI_le hI1 (by omega)⟩
  rcases h3 with ⟨rfl, h30⟩ | ⟨rfl, h30⟩
  · refine j_if_eq B 54 dL_packs_19 (by decide) (fun h31 => absurd h31 (by decide)) (fun h31 => ?_)
    refine j_iload B dL_packs_22 0 rfl ?_
    refine j_iconst B (v := (-1)) dL_packs_24 (by decide) ?_
    refine j_icmp_ne B 54 dL_packs_25 (by decide) (fun h32 => ?_) (fun h32 => ?_)
    · refine j_iconst B (v := 0) dL_packs_54 (by decide) ?_
      refine j_widen (k := (8)) (n := (48)) (Nat.le_of_ble_eq_true rfl) (Nat.le_of_ble_eq_true rfl) ?_
      exact kj4 0 (Or.inr ⟨rfl, by clear B hret kj4; grind⟩)
    · refine j_aload_n B dL_packs_28 1 rfl rfl ?_
      refine j_iload_n B dL_packs_29 4 rfl rfl ?_
      refine j_ask B (σ 11 c) 1 [.int (nI c)] (c_X2_sealOf l hl D cD cC cI cZ cL (pvA A ca) σ n ad hG (nI c)) (pv_askC (by omega) 11) q_296 q_297 q_298 q_1 q_299 hdX2_sealOf rfl ⟨Nat.le_of_ble_eq_true rfl, Nat.le_of_ble_eq_true rfl⟩ (Nat.le_of_ble_eq_true rfl) dL_packs_30 rfl (6) (36) ⟨Nat.le_of_ble_eq_true rfl, Nat.le_of_ble_eq_true rfl⟩ ⟨Nat.le_of_ble_eq_true rfl, Nat.le_of_ble_eq_true rfl⟩ ?_
      refine j_iconst B (v := (-1)) dL_packs_33 (by decide) ?_
      refine j_icmp_ne B 54 dL_packs_34 (by decide) (fun h33 => ?_) (fun h33 => ?_)
      · refine j_iconst B (v := 0) dL_packs_54 (by decide) ?_
        refine j_widen (k := (8)) (n := (48)) (Nat.le_of_ble_eq_true rfl) (Nat.le_of_ble_eq_true rfl) ?_
        exact kj4 0 (Or.inr ⟨rfl, by clear B hret kj4; grind⟩)
      · refine j_aload_n B dL_packs_37 1 rfl rfl ?_
        refine j_iload_n B dL_packs_38 4 rfl rfl ?_
        refine j_ask B (σ 10 c) 1 [.int (nI c)] (c_X2_crateKeeper l hl D cD cC cI cZ cL (pvA A ca) σ n ad hG (nI c)) (pv_askC (by omega) 10) q_435 q_436 q_437 q_1 q_438 hdX2_crateKeeper rfl ⟨Nat.le_of_ble_eq_true rfl, Nat.le_of_ble_eq_true rfl⟩ (Nat.le_of_ble_eq_true rfl) dL_packs_39 rfl (7) (42) ⟨Nat.le_of_ble_eq_true rfl, Nat.le_of_ble_eq_true rfl⟩ ⟨Nat.le_of_ble_eq_true rfl, Nat.le_of_ble_eq_true rfl⟩ ?_
        refine j_aload_n B dL_packs_42 1 rfl rfl ?_
        refine j_iload_n B dL_packs_43 3 rfl rfl ?_
        refine j_ask B (σ 2 j) 1 [.int (nI j)] (c_X2_keeperOf l hl D cD cC cI cZ cL (pvA A ca) σ n ad hG (nI j)) (pv_askD hG (by omega) 2) q_241 q_242 q_243 q_1 q_244 hdX2_keeperOf rfl ⟨Nat.le_of_ble_eq_true rfl, Nat.le_of_ble_eq_true rfl⟩ (Nat.le_of_ble_eq_true rfl) dL_packs_44 rfl (8) (48) ⟨Nat.le_of_ble_eq_true rfl, Nat.le_of_ble_eq_true rfl⟩ ⟨Nat.le_of_ble_eq_true rfl, Nat.le_of_ble_eq_true rfl⟩ ?_
        refine j_icmp_ne B 54 dL_packs_47 (by decide) (fun h34 => ?_) (fun h34 => ?_)
        · refine j_iconst B (v := 0) dL_packs_54 (by decide) ?_
          exact kj4 0 (Or.inr ⟨rfl, by clear B hret kj4; grind⟩)
        · refine j_iconst B (v := 1) dL_packs_50 (by decide) ?_
          refine j_goto B 55 dL_packs_51 (by decide) ?_
          exact kj4 1 (Or.inl ⟨rfl, by clear B hret kj4; grind⟩)
  · refine j_if_eq B 54 dL_packs_19 (by decide) (fun h35 => ?_) (fun h35 => absurd h35 (by decide))
    refine j_iconst B (v := 0) dL_packs_54 (by decide) ?_
    refine j_widen (k := (8)) (n := (48)) (Nat.le_of_ble_eq_true rfl) (Nat.le_of_ble_eq_true rfl) ?_
    exact kj4 0 (Or.inr ⟨rfl, by clear B hret kj4; grind⟩)
/-- packs_3 -/
abbrev rm_packs_3 : Room := { frames := 10, cells := 370, slots := 2220, locals := 172 }
set_option maxHeartbeats 4000000 in
set_option maxRecDepth 100000 in
theorem c_L_packs_3 (l : Launch) (hl : l.stackTraces = false) (D : va_G) (cD cC cI cZ cL : ClassId) (A : Nat → Prop) (σ φ : pgSt) (n : Nat) (ad ca : Nat → Nat) (f : Nat → Int64) (Bd : Nat) (h : pvI n σ φ (f 0) Bd) (hd : ∀ i, i < n → φ 1 i = pvE σ i) (j : Nat) (hj : j < n) (x : Int32) : Met l yL_packs (.code yL_packs cL_packs 10 (some .boolean) :: pgWd) rm_packs_3 (pgPc D (pgTys cD cC cI cZ cL) A (pvW D cD cC cI cL A σ n ad φ ca f) [.ref (ad 0), .int 3, .int (nI j), .int x, .ref (ca 0), .ref (ca 1), .ref (ca 5)]) (va_Qi (fun (r : Int32) (u : pgSt × pgSt × (Nat → Int64)) => r = 1 ∧ pvI n u.1 u.2.1 (u.2.2 0) (Bd + 1)) (fun u t9 => (pvW D cD cC cI cL A u.1 n ad u.2.1 ca u.2.2) t9.heap) A) rm_packs_3.cells rm_packs_3.slots A := by
  refine pv_enter (own := RL) (by decide) rfl (Nat.le_of_ble_eq_true rfl) (fun p e s m args below meth cc9 Q B hret => ?_)
  have hG := h.1
  have hn60 : n ≤ 60 := hG.1
  have hc0 : φ 0 0 = nI n := h.2.1.1
  have hm := h.2.2.2.2.2.2
  have hcr := pv_cr hG hj
  have hmj := hm j (by omega)
  refine j_aload_n B dL_packs_0 0 rfl rfl ?_
  refine j_iload_n B dL_packs_1 2 rfl rfl ?_
  refine j_ask B (σ 3 j) 1 [.int (nI j)] (c_X2_crateOf l hl D cD cC cI cZ cL (pvA A ca) σ n ad hG (nI j)) (pv_askD hG (by omega) 3) q_254 q_255 q_256 q_1 q_257 hdX2_crateOf rfl ⟨Nat.le_of_ble_eq_true rfl, Nat.le_of_ble_eq_true rfl⟩ (Nat.le_of_ble_eq_true rfl) dL_packs_2 rfl (1) (6) ⟨Nat.le_of_ble_eq_true rfl, Nat.le_of_ble_eq_true rfl⟩ ⟨Nat.le_of_ble_eq_true rfl, Nat.le_of_ble_eq_true rfl⟩ ?_
  refine j_istore B (L' := [(7, .int (σ 3 j)), (0, .ref (ad 0)), (1, .int 3), (2, .int (nI j)), (3, .int x), (4, .ref (ca 0)), (5, .ref (ca 1)), (6, .ref (ca 5))]) dL_packs_5 (by decide) rfl ?_
  refine j_iload_n B dL_packs_7 2 rfl rfl ?_
  refine j_iconst B (v := 2) dL_packs_8 (by decide) ?_
  refine j_icmp_ne B 130 dL_packs_9 (by decide) (fun h1 => ?_) (fun h1 => absurd h1 (by decide))
  refine j_iload B dL_packs_130 0 rfl ?_
  have kj2 : ∀ v3 : Int32, (v3 = 1 ∧ (σ 3 j ≠ -1 ∧ σ 5 j = 0 ∧ ¬ pgShut σ j) ∨ v3 = 0 ∧ ¬ (σ 3 j ≠ -1 ∧ σ 5 j = 0 ∧ ¬ pgShut σ j)) → pgJ p l e rm_packs_3 s m args below meth cc9 10 A (pvW D cD cC cI cL A σ n ad φ ca f) (7) (42) Q 157 [(7, .int (σ 3 j)), (0, .ref (ad 0)), (1, .int 3), (2, .int (nI j)), (3, .int x), (4, .ref (ca 0)), (5, .ref (ca 1)), (6, .ref (ca 5))] (.int v3 :: []) := by
    intro v3 hv4
    rcases hv4 with ⟨rfl, h5⟩ | ⟨rfl, h5⟩
    · refine j_istore B (L' := [(8, .int 1), (7, .int (σ 3 j)), (0, .ref (ad 0)), (1, .int 3), (2, .int (nI j)), (3, .int x), (4, .ref (ca 0)), (5, .ref (ca 1)), (6, .ref (ca 5))]) dL_packs_157 (by decide) rfl ?_
      refine j_aload_n B dL_packs_159 2 rfl rfl ?_
      refine j_iconst B (v := 3) dL_packs_160 (by decide) ?_
      refine j_iload_n B dL_packs_161 4 rfl rfl ?_
      refine j_iconst B (v := 0) dL_packs_162 (by decide) ?_
      refine j_iconst B (v := 0) dL_packs_163 (by decide) ?_
      obtain ⟨t1, τ1, et, eτ, hS1, hI1, hE1, hA1, hB1⟩ := pv_unpack h hj
      have hM := c_L_asks_3 l hl D cD cC cI cZ cL A σ φ n ad ca f hG (nI j) 0 0 hS1
      rw [et, eτ] at hM
      refine j_lawW B 5 [.ref (ad 0), .int 3, .int (nI j), .int 0, .int 0] hM q_305 q_306 q_0 q_307 hdL_asks rfl ⟨Nat.le_of_ble_eq_true rfl, Nat.le_of_ble_eq_true rfl⟩ (Nat.le_of_ble_eq_true rfl) dL_packs_164 rfl (9) (54) ⟨Nat.le_of_ble_eq_true rfl, Nat.le_of_ble_eq_true rfl⟩ ⟨Nat.le_of_ble_eq_true rfl, Nat.le_of_ble_eq_true rfl⟩ (fun r6 _ h7 => ?_)
      rw [h7]
      clear hM h7 r6
      refine j_iload B dL_packs_167 0 rfl ?_
      refine j_if_eq B 177 dL_packs_169 (by decide) (fun h8 => absurd h8 (by decide)) (fun h8 => ?_)
      refine j_iload B dL_packs_172 1 rfl ?_
      refine j_goto B 179 dL_packs_174 (by decide) ?_
      refine j_icmp_ne B 219 dL_packs_179 (by decide) (fun h9 => (by clear B hret; grind : False).elim) (fun h9 => ?_)
      refine j_aload_n B dL_packs_182 2 rfl rfl ?_
      refine j_iload_n B dL_packs_183 4 rfl rfl ?_
      refine j_ask B (τ1 3 j) 1 [.int (nI j)] (c_X2_crateOf l hl D cD cC cI cZ cL (pvA A ca) τ1 n ad hI1.1 (nI j)) (pv_askD hI1.1 (by omega) 3) q_254 q_255 q_256 q_1 q_257 hdX2_crateOf rfl ⟨Nat.le_of_ble_eq_true rfl, Nat.le_of_ble_eq_true rfl⟩ (Nat.le_of_ble_eq_true rfl) dL_packs_184 rfl (10) (60) ⟨Nat.le_of_ble_eq_true rfl, Nat.le_of_ble_eq_true rfl⟩ ⟨Nat.le_of_ble_eq_true rfl, Nat.le_of_ble_eq_true rfl⟩ ?_
      refine j_iload B dL_packs_187 0 rfl ?_
      refine j_if_eq B 196 dL_packs_189 (by decide) (fun h10 => absurd h10 (by decide)) (fun h10 => ?_)
      refine j_iconst B (v := (-1)) dL_packs_192 (by decide) ?_
      refine j_goto B 198 dL_packs_193 (by decide) ?_
      refine j_icmp_ne B 219 dL_packs_198 (by decide) (fun h11 => (by clear B hret; grind : False).elim) (fun h11 => ?_)
      refine j_aload_n B dL_packs_201 2 rfl rfl ?_
      refine j_aload B dL_packs_202 6 rfl ?_
      refine j_aload B dL_packs_204 7 rfl ?_
      refine j_lconst B (v := 1) dL_packs_206 (by decide) ?_
      refine j_iload_n B dL_packs_207 4 rfl rfl ?_
      refine j_lshl B dL_packs_208 ?_
      refine j_lawI B 4 [.ref (ad 0), .ref (ca 0), .ref (ca 1), .long ((1 : Int64) <<< ((nI j).toInt64 &&& 63))] (c_L_areSame l hl D cD cC cI cZ cL A τ1 φ n ad ca f hI1.1 (hc0) ((1 : Int64) <<< ((nI j).toInt64 &&& 63)) (pv_same1 (pv_j64 h hj) hd hE1 (fun _ => rfl))) q_429 q_430 q_0 q_431 hdL_areSame rfl ⟨Nat.le_of_ble_eq_true rfl, Nat.le_of_ble_eq_true rfl⟩ (Nat.le_of_ble_eq_true rfl) dL_packs_209 rfl (370) (2220) ⟨Nat.le_of_ble_eq_true rfl, Nat.le_of_ble_eq_true rfl⟩ ⟨Nat.le_of_ble_eq_true rfl, Nat.le_of_ble_eq_true rfl⟩ (fun r12 _ h13 => ?_)
      subst h13
      refine j_if_eq B 219 dL_packs_212 (by decide) (fun h14 => absurd h14 (by decide)) (fun h14 => ?_)
      refine j_iconst B (v := 1) dL_packs_215 (by decide) ?_
      refine j_goto B 220 dL_packs_216 (by decide) ?_
      exact hret 220 _ 1 (τ1, φ, f) (370) (2220) dL_packs_220 rfl (Nat.le_of_ble_eq_true rfl) (Nat.le_of_ble_eq_true rfl) ⟨rfl, pvI_le hI1 (by omega)⟩
    · refine j_istore B (L' := [(8, .int 0), (7, .int (σ 3 j)), (0, .ref (ad 0)), (1, .int 3), (2, .int (nI j)), (3, .int x), (4, .ref (ca 0)), (5, .ref (ca 1)), (6, .ref (ca 5))]) dL_packs_157 (by decide) rfl ?_
      refine j_aload_n B dL_packs_159 2 rfl rfl ?_
      refine j_iconst B (v := 3) dL_packs_160 (by decide) ?_
      refine j_iload_n B dL_packs_161 4 rfl rfl ?_
      refine j_iconst B (v := 0) dL_packs_162 (by decide) ?_
      refine j_iconst B (v := 0) dL_packs_163 (by decide) ?_
      obtain ⟨t1, τ1, et, eτ, hS1, hI1, hE1, hA1, hB1⟩ := pv_unpack h hj
      have hM := c_L_asks_3 l hl D cD cC cI cZ cL A σ φ n ad ca f hG (nI j) 0 0 hS1
      rw [et, eτ] at hM
      refine j_lawW B 5 [.ref (ad 0), .int 3, .int (nI j), .int 0, .int 0] hM q_305 q_306 q_0 q_307 hdL_asks rfl ⟨Nat.le_of_ble_eq_true rfl, Nat.le_of_ble_eq_true rfl⟩ (Nat.le_of_ble_eq_true rfl) dL_packs_164 rfl (9) (54) ⟨Nat.le_of_ble_eq_true rfl, Nat.le_of_ble_eq_true rfl⟩ ⟨Nat.le_of_ble_eq_true rfl, Nat.le_of_ble_eq_true rfl⟩ (fun r15 _ h16 => ?_)
      rw [h16]
      clear hM h16 r15
      refine j_iload B dL_packs_167 0 rfl ?_
      refine j_if_eq B 177 dL_packs_169 (by decide) (fun h17 => ?_) (fun h17 => absurd h17 (by decide))
      refine j_bipush B (v := (-8)) dL_packs_177 (by decide) ?_
      refine j_icmp_ne B 219 dL_packs_179 (by decide) (fun h18 => (by clear B hret; grind : False).elim) (fun h18 => ?_)
      refine j_aload_n B dL_packs_182 2 rfl rfl ?_
      refine j_iload_n B dL_packs_183 4 rfl rfl ?_
      refine j_ask B (τ1 3 j) 1 [.int (nI j)] (c_X2_crateOf l hl D cD cC cI cZ cL (pvA A ca) τ1 n ad hI1.1 (nI j)) (pv_askD hI1.1 (by omega) 3) q_254 q_255 q_256 q_1 q_257 hdX2_crateOf rfl ⟨Nat.le_of_ble_eq_true rfl, Nat.le_of_ble_eq_true rfl⟩ (Nat.le_of_ble_eq_true rfl) dL_packs_184 rfl (10) (60) ⟨Nat.le_of_ble_eq_true rfl, Nat.le_of_ble_eq_true rfl⟩ ⟨Nat.le_of_ble_eq_true rfl, Nat.le_of_ble_eq_true rfl⟩ ?_
      refine j_iload B dL_packs_187 0 rfl ?_
      refine j_if_eq B 196 dL_packs_189 (by decide) (fun h19 => ?_) (fun h19 => absurd h19 (by decide))
      refine j_iload B dL_packs_196 1 rfl ?_
      refine j_icmp_ne B 219 dL_packs_198 (by decide) (fun h20 => (by clear B hret; grind : False).elim) (fun h20 => ?_)
      refine j_aload_n B dL_packs_201 2 rfl rfl ?_
      refine j_aload B dL_packs_202 6 rfl ?_
      refine j_aload B dL_packs_204 7 rfl ?_
      refine j_lconst B (v := 1) dL_packs_206 (by decide) ?_
      refine j_iload_n B dL_packs_207 4 rfl rfl ?_
      refine j_lshl B dL_packs_208 ?_
      refine j_lawI B 4 [.ref (ad 0), .ref (ca 0), .ref (ca 1), .long ((1 : Int64) <<< ((nI j).toInt64 &&& 63))] (c_L_areSame l hl D cD cC cI cZ cL A τ1 φ n ad ca f hI1.1 (hc0) ((1 : Int64) <<< ((nI j).toInt64 &&& 63)) (pv_same1 (pv_j64 h hj) hd hE1 (fun _ => rfl))) q_429 q_430 q_0 q_431 hdL_areSame rfl ⟨Nat.le_of_ble_eq_true rfl, Nat.le_of_ble_eq_true rfl⟩ (Nat.le_of_ble_eq_true rfl) dL_packs_209 rfl (370) (2220) ⟨Nat.le_of_ble_eq_true rfl, Nat.le_of_ble_eq_true rfl⟩ ⟨Nat.le_of_ble_eq_true rfl, Nat.le_of_ble_eq_true rfl⟩ (fun r21 _ h22 => ?_)
      subst h22
      refine j_if_eq B 219 dL_packs_212 (by decide) (fun h23 => absurd h23 (by decide)) (fun h23 => ?_)
      refine j_iconst B (v := 1) dL_packs_215 (by decide) ?_
      refine j_goto B 220 dL_packs_216 (by decide) ?_
      exact hret 220 _ 1 (τ1, φ, f) (370) (2220) dL_packs_220 rfl (Nat.le_of_ble_eq_true rfl) (Nat.le_of_ble_eq_true rfl) ⟨rfl, pvI_le hI1 (by omega)⟩
  refine j_if_lt B 156 dL_packs_132 (by decide) (fun h24 => ?_) (fun h24 => ?_)
  · refine j_iconst B (v := 0) dL_packs_156 (by decide) ?_
    refine j_widen (k := (7)) (n := (42)) (Nat.le_of_ble_eq_true rfl) (Nat.le_of_ble_eq_true rfl) ?_
    exact kj2 0 (Or.inr ⟨rfl, by clear B hret kj2; grind⟩)
  · refine j_aload B dL_packs_135 7 rfl ?_
    refine j_iload_n B dL_packs_137 3 rfl rfl ?_
    refine j_lawI B 2 [.ref (ca 5), .int (nI j)] (c_L_isMissing l hl D cD cC cI cZ cL A σ φ n ad ca f j (by omega)) q_290 q_291 q_0 q_292 hdL_isMissing rfl ⟨Nat.le_of_ble_eq_true rfl, Nat.le_of_ble_eq_true rfl⟩ (Nat.le_of_ble_eq_true rfl) dL_packs_138 rfl (1) (6) ⟨Nat.le_of_ble_eq_true rfl, Nat.le_of_ble_eq_true rfl⟩ ⟨Nat.le_of_ble_eq_true rfl, Nat.le_of_ble_eq_true rfl⟩ (fun r25 _ h26 => ?_)
    rcases h26 with ⟨rfl, h27⟩ | ⟨rfl, h27⟩
    · refine j_if_ne B 156 dL_packs_141 (by decide) (fun h28 => ?_) (fun h28 => absurd h28 (by decide))
      refine j_iconst B (v := 0) dL_packs_156 (by decide) ?_
      refine j_widen (k := (7)) (n := (42)) (Nat.le_of_ble_eq_true rfl) (Nat.le_of_ble_eq_true rfl) ?_
      exact kj2 0 (Or.inr ⟨rfl, by clear B hret kj2; grind⟩)
    · refine j_if_ne B 156 dL_packs_141 (by decide) (fun h29 => absurd h29 (by decide)) (fun h29 => ?_)
      refine j_aload_n B dL_packs_144 1 rfl rfl ?_
      refine j_iload_n B dL_packs_145 3 rfl rfl ?_
      refine j_lawI B 2 [.ref (ad 0), .int (nI j)] (c_L_isShut l hl D cD cC cI cZ cL A σ φ n ad ca f hG j (by omega)) q_293 q_294 q_0 q_295 hdL_isShut rfl ⟨Nat.le_of_ble_eq_true rfl, Nat.le_of_ble_eq_true rfl⟩ (Nat.le_of_ble_eq_true rfl) dL_packs_146 rfl (4) (24) ⟨Nat.le_of_ble_eq_true rfl, Nat.le_of_ble_eq_true rfl⟩ ⟨Nat.le_of_ble_eq_true rfl, Nat.le_of_ble_eq_true rfl⟩ (fun r30 _ h31 => ?_)
      rcases h31 with ⟨rfl, h32⟩ | ⟨rfl, h32⟩
      · refine j_if_ne B 156 dL_packs_149 (by decide) (fun h33 => ?_) (fun h33 => absurd h33 (by decide))
        refine j_iconst B (v := 0) dL_packs_156 (by decide) ?_
        refine j_widen (k := (7)) (n := (42)) (Nat.le_of_ble_eq_true rfl) (Nat.le_of_ble_eq_true rfl) ?_
        exact kj2 0 (Or.inr ⟨rfl, by clear B hret kj2; grind⟩)
      · refine j_if_ne B 156 dL_packs_149 (by decide) (fun h34 => absurd h34 (by decide)) (fun h34 => ?_)
        refine j_iconst B (v := 1) dL_packs_152 (by decide) ?_
        refine j_goto B 157 dL_packs_153 (by decide) ?_
        refine j_widen (k := (7)) (n := (42)) (Nat.le_of_ble_eq_true rfl) (Nat.le_of_ble_eq_true rfl) ?_
        exact kj2 1 (Or.inl ⟨rfl, by clear B hret kj2; grind⟩)
end
