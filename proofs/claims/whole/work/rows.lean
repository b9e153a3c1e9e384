section
-- ===== PART A: goes FIRST, ahead of the names: the tables' words, and 'selects' of the private methods out of them =====
/-- a private method of a class that the tables say can be made, by its rows of tables_1 -/
def lw_okq (q : MethodName × Nat) : Prop := (q.1.cls ≠ "java/lang/invoke/MethodHandle" ∧ q.1.cls ≠ "java/lang/invoke/VarHandle") ∧ Cond.instantiable q.1.cls q.2 ∈ tables_1 ∧ Cond.privateMethod q.1 ∈ tables_1 ∧ Cond.instanceMethod q.1 ∈ tables_1
theorem lw_p0 : lw_okq (⟨"java/lang/Throwable", "fillInStackTrace", "(I)Ljava/lang/Throwable;"⟩, 6) := ⟨⟨by decide +kernel, by decide +kernel⟩, List.mem_of_getElem? (i := 140) (by decide +kernel), List.mem_of_getElem? (i := 138) (by decide +kernel), List.mem_of_getElem? (i := 139) (by decide +kernel)⟩
theorem lw_p1 : lw_okq (⟨"Shredroll", "handOver", "(LShredroll$Disk;I)V"⟩, 7) := ⟨⟨by decide +kernel, by decide +kernel⟩, List.mem_of_getElem? (i := 13) (by decide +kernel), List.mem_of_getElem? (i := 250) (by decide +kernel), List.mem_of_getElem? (i := 251) (by decide +kernel)⟩
theorem lw_p2 : lw_okq (⟨"Shredroll", "findDisk", "(I)LShredroll$Disk;"⟩, 7) := ⟨⟨by decide +kernel, by decide +kernel⟩, List.mem_of_getElem? (i := 13) (by decide +kernel), List.mem_of_getElem? (i := 261) (by decide +kernel), List.mem_of_getElem? (i := 262) (by decide +kernel)⟩
theorem lw_p3 : lw_okq (⟨"Shredroll", "findCrate", "(I)LShredroll$Crate;"⟩, 7) := ⟨⟨by decide +kernel, by decide +kernel⟩, List.mem_of_getElem? (i := 13) (by decide +kernel), List.mem_of_getElem? (i := 286) (by decide +kernel), List.mem_of_getElem? (i := 287) (by decide +kernel)⟩
theorem lw_p4 : lw_okq (⟨"Shredroll", "countDisksIn", "(LShredroll$Crate;)I"⟩, 7) := ⟨⟨by decide +kernel, by decide +kernel⟩, List.mem_of_getElem? (i := 13) (by decide +kernel), List.mem_of_getElem? (i := 296) (by decide +kernel), List.mem_of_getElem? (i := 297) (by decide +kernel)⟩
theorem lw_p5 : lw_okq (⟨"Shredroll", "handOverDisksIn", "(LShredroll$Crate;)V"⟩, 7) := ⟨⟨by decide +kernel, by decide +kernel⟩, List.mem_of_getElem? (i := 13) (by decide +kernel), List.mem_of_getElem? (i := 338) (by decide +kernel), List.mem_of_getElem? (i := 339) (by decide +kernel)⟩
theorem lw_p6 : lw_okq (⟨"ShredrollModel", "can", "(I)Z"⟩, 19) := ⟨⟨by decide +kernel, by decide +kernel⟩, List.mem_of_getElem? (i := 500) (by decide +kernel), List.mem_of_getElem? (i := 580) (by decide +kernel), List.mem_of_getElem? (i := 581) (by decide +kernel)⟩
theorem lw_p7 : lw_okq (⟨"ShredrollModel", "isDisk", "(I)Z"⟩, 19) := ⟨⟨by decide +kernel, by decide +kernel⟩, List.mem_of_getElem? (i := 500) (by decide +kernel), List.mem_of_getElem? (i := 588) (by decide +kernel), List.mem_of_getElem? (i := 589) (by decide +kernel)⟩
theorem lw_p8 : lw_okq (⟨"ShredrollModel", "isBarred", "(I)Z"⟩, 19) := ⟨⟨by decide +kernel, by decide +kernel⟩, List.mem_of_getElem? (i := 500) (by decide +kernel), List.mem_of_getElem? (i := 592) (by decide +kernel), List.mem_of_getElem? (i := 593) (by decide +kernel)⟩
theorem lw_p9 : lw_okq (⟨"ShredrollModel", "isShut", "(I)Z"⟩, 19) := ⟨⟨by decide +kernel, by decide +kernel⟩, List.mem_of_getElem? (i := 500) (by decide +kernel), List.mem_of_getElem? (i := 596) (by decide +kernel), List.mem_of_getElem? (i := 597) (by decide +kernel)⟩
theorem lw_p10 : lw_okq (⟨"ShredrollModel", "countIn", "(I)I"⟩, 19) := ⟨⟨by decide +kernel, by decide +kernel⟩, List.mem_of_getElem? (i := 500) (by decide +kernel), List.mem_of_getElem? (i := 611) (by decide +kernel), List.mem_of_getElem? (i := 612) (by decide +kernel)⟩
theorem lw_p11 : lw_okq (⟨"ShredrollModel", "isOver", "(I)Z"⟩, 19) := ⟨⟨by decide +kernel, by decide +kernel⟩, List.mem_of_getElem? (i := 500) (by decide +kernel), List.mem_of_getElem? (i := 655) (by decide +kernel), List.mem_of_getElem? (i := 656) (by decide +kernel)⟩
theorem lw_p12 : lw_okq (⟨"ShredrollModel", "isAsked", "(I)Z"⟩, 19) := ⟨⟨by decide +kernel, by decide +kernel⟩, List.mem_of_getElem? (i := 500) (by decide +kernel), List.mem_of_getElem? (i := 667) (by decide +kernel), List.mem_of_getElem? (i := 668) (by decide +kernel)⟩
def lw_privs_1 : List (MethodName × Nat) := [(⟨"java/lang/Throwable", "fillInStackTrace", "(I)Ljava/lang/Throwable;"⟩, 6), (⟨"Shredroll", "handOver", "(LShredroll$Disk;I)V"⟩, 7), (⟨"Shredroll", "findDisk", "(I)LShredroll$Disk;"⟩, 7), (⟨"Shredroll", "findCrate", "(I)LShredroll$Crate;"⟩, 7), (⟨"Shredroll", "countDisksIn", "(LShredroll$Crate;)I"⟩, 7), (⟨"Shredroll", "handOverDisksIn", "(LShredroll$Crate;)V"⟩, 7), (⟨"ShredrollModel", "can", "(I)Z"⟩, 19), (⟨"ShredrollModel", "isDisk", "(I)Z"⟩, 19), (⟨"ShredrollModel", "isBarred", "(I)Z"⟩, 19), (⟨"ShredrollModel", "isShut", "(I)Z"⟩, 19), (⟨"ShredrollModel", "countIn", "(I)I"⟩, 19), (⟨"ShredrollModel", "isOver", "(I)Z"⟩, 19), (⟨"ShredrollModel", "isAsked", "(I)Z"⟩, 19)]
theorem lw_r1 : ∀ q ∈ lw_privs_1, lw_okq q := List.forall_mem_cons.mpr ⟨lw_p0, List.forall_mem_cons.mpr ⟨lw_p1, List.forall_mem_cons.mpr ⟨lw_p2, List.forall_mem_cons.mpr ⟨lw_p3, List.forall_mem_cons.mpr ⟨lw_p4, List.forall_mem_cons.mpr ⟨lw_p5, List.forall_mem_cons.mpr ⟨lw_p6, List.forall_mem_cons.mpr ⟨lw_p7, List.forall_mem_cons.mpr ⟨lw_p8, List.forall_mem_cons.mpr ⟨lw_p9, List.forall_mem_cons.mpr ⟨lw_p10, List.forall_mem_cons.mpr ⟨lw_p11, List.forall_mem_cons.mpr ⟨lw_p12, fun _ h => absurd h List.not_mem_nil⟩⟩⟩⟩⟩⟩⟩⟩⟩⟩⟩⟩⟩
def lw_privs : List (MethodName × Nat) := lw_privs_1
def lw_tbl : List Cond := k2_sels lw_privs ++ tables_1
theorem lw_privs_ok : ∀ q ∈ lw_privs, lw_okq q := lw_r1
-- ===== end of PART A; then your names; then what follows =====
end
section
/-! ===== BEGIN words of one list among another's, by their places ===== -/
theorem goodIn_r {big : List Cond} (ws : List Cond) (ps : List Nat) (hp : ws = ps.filterMap (fun i => big[i]?)) (h : ws.all goodWord = true) : GoodIn big ws := by
  intro w hw
  have h1 := List.all_eq_true.mp h w hw
  rw [hp] at hw
  obtain ⟨i, -, hi⟩ := List.mem_filterMap.mp hw
  have hm : w ∈ big := by first | exact List.mem_of_getElem? hi | exact List.getElem?_mem hi
  exact ⟨hm, good_of_word h1⟩
theorem goodIn_app {big a b : List Cond} (ha : GoodIn big a) (hb : GoodIn big b) : GoodIn big (a ++ b) := fun w h => (List.mem_append.mp h).elim (ha w) (hb w)
theorem goodIn_ca {big a b : List Cond} {c : Cond} (ha : GoodIn big (c :: a)) (hb : GoodIn big b) : GoodIn big (c :: (a ++ b)) := fun w h => (List.mem_cons.mp h).elim (fun e => ha w (List.mem_cons.mpr (Or.inl e))) (fun h => (List.mem_append.mp h).elim (fun h => ha w (List.mem_cons.mpr (Or.inr h))) (hb w))
theorem goodIn_sub {big ws : List Cond} (hm : ∀ w ∈ ws, w ∈ big) (h : ws.all goodWord = true) : GoodIn big ws := fun w hw => ⟨hm w hw, good_of_word (List.all_eq_true.mp h w hw)⟩
/-! ===== END ===== -/

/-! ===== BEGIN exceptions that leave a method, and their catching by the caller (launches without stack traces) ===== -/
section VXA
/-! The laws vx_back, vx_callV, vx_callS, vx_callSW, vx_throw0, vx_throwS follow proofs of the library, with one case more: JvmDerived/Free/Laws.lean (Back.of_free), Shelf42/LK1.lean (callV, callS), Shelf/KitTraced.lean (throwNew0V, throwNewS). -/
/-- where a method has thrown q: the class by its name, the cell, what was written, the world -/
def vx_T (XC : String → State → State → Prop) (st : State) (q : Addr) (t : State) (mc ms : Nat) (free : Addr → Prop) : Prop :=
  ∃ (E : String) (ce : Cell) (L : List Loc), XC E st t ∧ t.heap[q]? = some ce ∧ ce.vm = .none ∧ st.vm.findClass E = some ce.cls ∧ st.WarmedH t.vm ∧ st.sameButNew ({ t with vm := st.vm } : State) L mc ms ∧ ∀ z ∈ L, free z.base
def vx_Q (Qc : Array Value → State → Outcome → State → Prop) (XC : String → State → State → Prop) (mc ms : Nat) (free : Addr → Prop) : Array Value → State → Outcome → State → Prop := fun a st o t =>
  (Qc a st o t ∧ ∃ L, FrameEnd st o t L mc ms ∧ ∀ q ∈ L, free q.base) ∨ ∃ q, o = .threw q ∧ vx_T XC st q t mc ms free
/-- a callee that returns or throws -/
def vx_Met (l : Launch) (y : MethodName) (ws : List Cond) (rm : Room) (Pc : Array Value → State → Prop) (Qc : Array Value → State → Outcome → State → Prop) (XC : String → State → State → Prop) (mc ms : Nat) (free : Addr → Prop) : Prop :=
  MetFree l y (headSpec ws rm) Pc (fun _ _ _ _ _ => True) (vx_Q Qc XC mc ms free)
def vx_Post (XC : String → State → State → Prop) (mc ms : Nat) (free : Addr → Prop) : Pt → Array Value → Addr → Pt → Prop := fun A a q B =>
  ∃ (g : JFrame) (mk : MethodId) (t : State) (L : List Loc) (E : String) (ce : Cell), B.U.heap = t.heap ∧ B.U.vm = t.vm ∧ XC E (A.U.calling g mk a) t ∧ t.heap[q]? = some ce ∧ ce.vm = .none ∧ A.U.vm.findClass E = some ce.cls ∧ B.locs = A.locs ++ L ∧ (∀ z ∈ L, free z.base) ∧ B.cells = A.cells + mc ∧ B.slots = A.slots + ms
def vx_Back (l : Launch) (R : Room) (p : Program) (e : Env) (below : List Frame) (s : State) (sargs : Array Value) (y : MethodName) (len W9 : Nat)
    (Pre : Pt → Array Value → Prop) (Post : Pt → Array Value → Option Value → Pt → Prop) (PostX : Pt → Array Value → Addr → Pt → Prop) : Prop :=
  ∀ (m : MethodId) (meth : Method) (c : Code) (A : Pt) (g : JFrame) (ig : Instr) (mk : MethodId) (a : Array Value),
    Stand p l e R s m sargs below meth c A.U A.locs A.cells A.slots → g.method = m → g.locals.size = c.maxLocals → decode c.code g.pc = .ok (ig, len) →
    2 * g.monitorRoom + (g.stack.map fun v => v.category).sum ≤ W9 → A.U.methodNamed? y = some mk → Pre A a →
    (∃ (v : Option Value) (B : Pt), Stand p l e R s m sargs below meth c B.U B.locs B.cells B.slots ∧ Post A a v B ∧
      Steps p.tables e below (doInvoke e (A.U.setTop g) [] mk a).1 (B.U.setTop { g with pc := g.pc + len, stack := v.toList ++ g.stack })) ∨
    (∃ (q : Addr) (B : Pt), Stand p l e R s m sargs below meth c B.U B.locs B.cells B.slots ∧ PostX A a q B ∧
      Steps p.tables e below (doInvoke e (A.U.setTop g) [] mk a).1 ((B.U.setTop g).pushFrame (.throwing q)))
section Payer
variable {l : Launch} {R : Room} {p : Program} {e : Env} {below : List Frame} {s : State} {sargs : Array Value} {y : MethodName} {len W9 : Nat}
theorem vx_back {ws : List Cond} {rm : Room} {Pc : Array Value → State → Prop} {Qc : Array Value → State → Outcome → State → Prop} {XC : String → State → State → Prop} {mc ms : Nat} {free : Addr → Prop} {bytes : ByteArray} {maxL : Nat} {ret : Option FieldType}
    (hM : vx_Met l y ws rm Pc Qc XC mc ms free) (hblind : FrameBlind Pc) (hrc : rm.cells = mc) (hrs : rm.slots = ms)
    (hframes : rm.frames + 1 ≤ R.frames) (hlocals : W9 + (maxL + 11) + rm.locals ≤ R.locals)
    (hws : ∀ w ∈ ws, ∀ a' U, s.WarmedH U.vm → w.before a' U = true) (hcode : Cond.code y bytes maxL ret ∈ ws) (hinit : ∀ a' U, s.WarmedH U.vm → (Cond.initialized y.cls).before a' U = true) :
    vx_Back l R p e below s sargs y len W9 (PreOf R mc ms Pc) (PostOf Qc mc ms free) (vx_Post XC mc ms free) := by
  intro m meth c A g ig mk a X hg hsize hdg hW hn hp
  have h1 : (headSpec ws rm).pre.before a A.U = true := atoms_intro fun w hw => hws w hw _ _ X.warmed
  have h2 : (Cond.code y bytes maxL ret).before a A.U = true := hws _ hcode _ _ X.warmed
  have h3 : (Cond.initialized y.cls).before a A.U = true := hinit _ _ X.warmed
  have h4 : A.cells + (headSpec ws rm).room.cells ≤ R.cells := by rw [show (headSpec ws rm).room.cells = mc from hrc]; exact hp.1
  have h5 : A.slots + (headSpec ws rm).room.slots ≤ R.slots := by rw [show (headSpec ws rm).room.slots = ms from hrs]; exact hp.2.1
  have hPc : Pc a (A.U.calling g mk a) := hblind _ _ _ _ hp.2.2
  obtain ⟨U, Ls, c0, s0⟩ := A
  dsimp only [Pt.U, Pt.locs, Pt.cells, Pt.slots] at h1 h2 h3 h4 h5 X hn hPc ⊢
  obtain ⟨methY, cY, hmY, hcY, -, hlY, -, -, -, -⟩ := Cond.code_spec hn h2
  obtain ⟨kY, hkY, -⟩ := className_of_methodNamed hn
  have hinitY : kY.init = .initialized := Cond.initialized_spec (findClass_of_methodNamed hn) hkY h3
  have h : At U g.method c below := by rw [hg]; exact X.here
  have hlocals9 : W9 + (maxL + 11) + (headSpec ws rm).room.locals ≤ R.locals := hlocals
  have happ : (headSpec ws rm).appliesLoose y e.platform (U.calling g mk a) = true :=
    Spec.appliesLoose_calling (g := g) h hdg hn hkY hinitY
      (X.room_calling (g := g) (R' := (headSpec ws rm).room) hsize hmY hcY hframes (by rw [hlY]; omega) h4 h5) h1
  obtain ⟨mid, hmid⟩ := h.above
  have hfr : (U.setTop g).frames = (.java g :: mid) ++ below := by rw [State.frames_setTop' g h.top, hmid]; rfl
  obtain ⟨o, s₂, hsteps, -, hend, hq⟩ := Steps.callFree hM p X.admits X.cas X.clock (acts := []) hfr happ hPc trivial
  have hq' : vx_Q Qc XC mc ms free a (U.calling g mk a) o s₂ := hq
  rw [State.frames_setTop' g h.top] at hend
  obtain ⟨g₀, hg0⟩ := Option.isSome_iff_exists.mp h.top
  obtain ⟨r, hr⟩ := State.topJava?_eq_some.mp hg0
  have hr' : (({ U with heap := s₂.heap, slotsUsed := s₂.slotsUsed } : State).setVm s₂.vm).frames = .java g₀ :: r := hr
  rcases hq' with ⟨hqc, L, hfe, hL⟩ | ⟨q, rfl, E, ce, L, hx, hce, hcv, hcl, hW₂, hsm, hL⟩
  · obtain ⟨⟨v, rfl⟩, hW₂, e2, q2, q3, q4, q5, q6⟩ := id hfe
    have e3 : s₂ = ({ (U.calling g mk a).setFrames s₂.frames with heap := s₂.heap, slotsUsed := s₂.slotsUsed } : State).setVm s₂.vm := by
      have : s₂ = ({ s₂ with vm := (U.calling g mk a).vm } : State).setVm s₂.vm := rfl
      rw [e2] at this
      exact this
    obtain ⟨c₂, i₂, len₂, hc₂, hd₂, hf₂⟩ := hend
    have hW' : U.WarmedH s₂.vm := hW₂
    have hcc : c₂ = c := by
      have h1 : s₂.code? g.method = U.code? g.method := by
        rw [State.code?_eq, State.code?_eq, hW'.alike.method?]
      exact Option.some.inj (hc₂.symm.trans (h1.trans h.code))
    subst hcc
    have hlen : len₂ = len := by rw [hdg] at hd₂; cases hd₂; rfl
    subst hlen
    have hs₂ : s₂ = (({ U with heap := s₂.heap, slotsUsed := s₂.slotsUsed } : State).setVm s₂.vm).setTop { g with pc := g.pc + len₂, stack := v.toList ++ g.stack } := by
      refine e3.trans ?_
      rw [hf₂, State.calling_eq h.top, State.setFrames_setFrames, State.setTop_of_frames _ hr', hr]
      rfl
    have hsame : U.sameButNew ({ U with heap := s₂.heap, slotsUsed := s₂.slotsUsed } : State) L mc ms := by
      refine ⟨?_, q2, q3, q4, q5, q6⟩
      obtain ⟨t, ht, -⟩ := State.frames_cons hr
      show ({ U with heap := s₂.heap, slotsUsed := s₂.slotsUsed } : State) = { U.setFrames U.frames with heap := s₂.heap, slotsUsed := s₂.slotsUsed }
      rw [State.setFrames_self ht]
    subst hg
    refine Or.inl ⟨v, ⟨(({ U with heap := s₂.heap, slotsUsed := s₂.slotsUsed } : State).setVm s₂.vm), Ls ++ L, c0 + mc, s0 + ms⟩,
      ⟨X.admits, X.cas, X.clock, X.frames, X.room, X.hears, X.method, X.code, (X.here.setHeapUsed s₂.heap s₂.slotsUsed).setVm hW'.alike, X.tail, State.WarmedH.trans X.warmed hW', X.limits, X.bytes, X.same.trans (hsame.setVm s.vm)⟩,
      ⟨g, mk, s₂, L, rfl, rfl, hqc, rfl, hL, rfl, rfl⟩, ?_⟩
    show Steps p.tables e below _ ((({ U with heap := s₂.heap, slotsUsed := s₂.slotsUsed } : State).setVm s₂.vm).setTop { g with pc := g.pc + len₂, stack := v.toList ++ g.stack })
    rw [← hs₂]
    exact hsteps
  · obtain ⟨e2, q2, q3, q4, q5, q6⟩ := id hsm
    have e3 : s₂ = ({ (U.calling g mk a).setFrames s₂.frames with heap := s₂.heap, slotsUsed := s₂.slotsUsed } : State).setVm s₂.vm := by
      have : s₂ = ({ s₂ with vm := (U.calling g mk a).vm } : State).setVm s₂.vm := rfl
      rw [e2] at this
      exact this
    have hf₂ : s₂.frames = .throwing q :: .java g :: U.frames.tail := hend
    have hW' : U.WarmedH s₂.vm := hW₂
    have hs₂ : s₂ = ((({ U with heap := s₂.heap, slotsUsed := s₂.slotsUsed } : State).setVm s₂.vm).setTop g).pushFrame (.throwing q) := by
      refine e3.trans ?_
      rw [hf₂, State.calling_eq h.top, State.setFrames_setFrames, State.pushFrame, State.frames_setTop _ hr', State.setTop_of_frames _ hr', State.setFrames_setFrames, hr]
      rfl
    have hsame : U.sameButNew ({ U with heap := s₂.heap, slotsUsed := s₂.slotsUsed } : State) L mc ms := by
      refine ⟨?_, q2, q3, q4, q5, q6⟩
      obtain ⟨t, ht, -⟩ := State.frames_cons hr
      show ({ U with heap := s₂.heap, slotsUsed := s₂.slotsUsed } : State) = { U.setFrames U.frames with heap := s₂.heap, slotsUsed := s₂.slotsUsed }
      rw [State.setFrames_self ht]
    subst hg
    refine Or.inr ⟨q, ⟨(({ U with heap := s₂.heap, slotsUsed := s₂.slotsUsed } : State).setVm s₂.vm), Ls ++ L, c0 + mc, s0 + ms⟩,
      ⟨X.admits, X.cas, X.clock, X.frames, X.room, X.hears, X.method, X.code, (X.here.setHeapUsed s₂.heap s₂.slotsUsed).setVm hW'.alike, X.tail, State.WarmedH.trans X.warmed hW', X.limits, X.bytes, X.same.trans (hsame.setVm s.vm)⟩,
      ⟨g, mk, s₂, L, E, ce, rfl, rfl, hx, hce, hcv, hcl, rfl, hL, rfl, rfl⟩, ?_⟩
    show Steps p.tables e below _ (((({ U with heap := s₂.heap, slotsUsed := s₂.slotsUsed } : State).setVm s₂.vm).setTop g).pushFrame (.throwing q))
    rw [← hs₂]
    exact hsteps
end Payer
section Calls
variable {p : Program} {l : Launch} {e : Env} {R : Room} {s : State} {m : MethodId} {args : Array Value} {below : List Frame} {meth : Method} {c : Code} {T : State} {locs : List Loc} {cells slots : Nat}
theorem vx_callV (X : Stand p l e R s m args below meth c T locs cells slots) (hexec : p.tables.exec = Jvm.exec) {own C : String} {index : Nat} {y : MethodName} {bytes : ByteArray} {maxL : Nat} {ret : Option FieldType}
    (hown : s.vm.findClass own = some m.cls) (hlink : (Cond.methodLink own index y).before args s = true) (hinst : (Cond.instanceMethod y).before args s = true) (hsel : (Cond.selects C y y).before args s = true)
    (hcode : (Cond.code y bytes maxL ret).before args s = true) (hy : y.cls ≠ "java/lang/invoke/MethodHandle" ∧ y.cls ≠ "java/lang/invoke/VarHandle")
    {W9 : Nat} {Pre : Pt → Array Value → Prop} {Post : Pt → Array Value → Option Value → Pt → Prop} {PostX : Pt → Array Value → Addr → Pt → Prop} (hK : vx_Back l R p e below s args y 3 W9 Pre Post PostX)
    {b : Addr} {cellB : Cell} (hcell : T.heap[b]? = some cellB) (hobj : cellB.vm.isStatics = false) (hcls : s.vm.findClass C = some cellB.cls)
    {g : JFrame} (hg : g.method = m) (hsize : g.locals.size = c.maxLocals) {argsL rest : List Value} (hlen : ∀ sig, parseMethodDescriptor y.desc = some sig → argsL.length = sig.parameters.length)
    (hstack : g.stack = argsL.reverse ++ .ref b :: rest) (hW : 2 * g.monitorRoom + (rest.map fun v => v.category).sum ≤ W9) (hdg : decode c.code g.pc = .ok (.invokevirtual index, 3))
    (hpre : ∀ vm₁, s.WarmedH vm₁ → Pre ⟨T.setVm vm₁, locs, cells, slots⟩ (Value.ref b :: argsL).toArray) :
    (∃ (v : Option Value) (vm₁ : Vm) (B : Pt), s.WarmedH vm₁ ∧ Stand p l e R s m args below meth c B.U B.locs B.cells B.slots ∧ Post ⟨T.setVm vm₁, locs, cells, slots⟩ (Value.ref b :: argsL).toArray v B ∧
      ∀ target, Steps p.tables e below (B.U.setTop { g with pc := g.pc + 3, stack := v.toList ++ rest }) target → Steps p.tables e below (T.setTop g) target) ∨
    (∃ (q : Addr) (vm₁ : Vm) (B : Pt), s.WarmedH vm₁ ∧ Stand p l e R s m args below meth c B.U B.locs B.cells B.slots ∧ PostX ⟨T.setVm vm₁, locs, cells, slots⟩ (Value.ref b :: argsL).toArray q B ∧
      Steps p.tables e below (T.setTop g) ((B.U.setTop { g with stack := rest }).pushFrame (.throwing q))) := by
  obtain ⟨mk, methM, hnamed, hmethM, hstM, habM⟩ := Cond.instanceMethod_spec hinst
  obtain ⟨methM', cM, hmethM', -, -, -, -, -, -, hsigM⟩ := Cond.code_spec hnamed hcode
  cases hmethM.symm.trans hmethM'
  obtain ⟨c2, r2, m2, q1, q2, q3, q4, kP, hkP, hkPi⟩ := Cond.selects_spec hsel
  cases hcls.symm.trans q1
  cases (State.methodFound?_of_named hnamed hy).symm.trans q2
  cases hnamed.symm.trans q3
  have hselP : selectMethod e.platform s.vm cellB.cls mk = .method mk := by rw [Launch.admits_selectMethod X.admits]; exact q4
  obtain ⟨vm₁, X₁, hstep₁⟩ := X.invokevirtual hexec hown hlink hnamed hmethM hstM hkP hkPi hy (a := b) (cell := cellB) hcell
    (fun z h => by rw [h] at hobj; cases hobj) hselP hmethM habM hkP hkPi (g := g) hg (argsL := argsL) (rest := rest) (hlen _ hsigM) hstack hdg
  rcases hK m meth c ⟨T.setVm vm₁, locs, cells, slots⟩ { g with stack := rest } (.invokevirtual index) mk (Value.ref b :: argsL).toArray X₁ hg hsize hdg hW (X₁.named hnamed) (hpre vm₁ X₁.warmed) with ⟨v, B, X', hpost, hsteps⟩ | ⟨q, B, X', hpost, hsteps⟩
  · exact Or.inl ⟨v, vm₁, B, X₁.warmed, X', hpost, fun target h => hstep₁ _ fun acts => by rw [doInvoke_state]; exact hsteps.trans h⟩
  · exact Or.inr ⟨q, vm₁, B, X₁.warmed, X', hpost, hstep₁ _ fun acts => by rw [doInvoke_state]; exact hsteps⟩
theorem vx_callS (X : Stand p l e R s m args below meth c T locs cells slots) (hexec : p.tables.exec = Jvm.exec) {own : String} {index : Nat} {y : MethodName} {bytes : ByteArray} {maxL : Nat} {ret : Option FieldType}
    (hown : s.vm.findClass own = some m.cls) (hlink : (Cond.methodLink own index y).before args s = true) (hstat : (Cond.static y).before args s = true) (hinit : (Cond.initialized y.cls).before args s = true)
    (hcode : (Cond.code y bytes maxL ret).before args s = true) (hy : y.cls ≠ "java/lang/invoke/MethodHandle" ∧ y.cls ≠ "java/lang/invoke/VarHandle")
    {W9 : Nat} {Pre : Pt → Array Value → Prop} {Post : Pt → Array Value → Option Value → Pt → Prop} {PostX : Pt → Array Value → Addr → Pt → Prop} (hK : vx_Back l R p e below s args y 3 W9 Pre Post PostX)
    {g : JFrame} (hg : g.method = m) (hsize : g.locals.size = c.maxLocals) {argsL rest : List Value} (hlen : ∀ sig, parseMethodDescriptor y.desc = some sig → argsL.length = sig.parameters.length)
    (hstack : g.stack = argsL.reverse ++ rest) (hW : 2 * g.monitorRoom + (rest.map fun v => v.category).sum ≤ W9) (hdg : decode c.code g.pc = .ok (.invokestatic index, 3))
    (hpre : ∀ vm₁, s.WarmedH vm₁ → Pre ⟨T.setVm vm₁, locs, cells, slots⟩ argsL.toArray) :
    (∃ (v : Option Value) (vm₁ : Vm) (B : Pt), s.WarmedH vm₁ ∧ Stand p l e R s m args below meth c B.U B.locs B.cells B.slots ∧ Post ⟨T.setVm vm₁, locs, cells, slots⟩ argsL.toArray v B ∧
      ∀ target, Steps p.tables e below (B.U.setTop { g with pc := g.pc + 3, stack := v.toList ++ rest }) target → Steps p.tables e below (T.setTop g) target) ∨
    (∃ (q : Addr) (vm₁ : Vm) (B : Pt), s.WarmedH vm₁ ∧ Stand p l e R s m args below meth c B.U B.locs B.cells B.slots ∧ PostX ⟨T.setVm vm₁, locs, cells, slots⟩ argsL.toArray q B ∧
      Steps p.tables e below (T.setTop g) ((B.U.setTop { g with stack := rest }).pushFrame (.throwing q))) := by
  obtain ⟨mk, hnamed⟩ := Cond.code_named hcode
  obtain ⟨methM, cM, hmethM, -, -, -, -, -, -, hsigM⟩ := Cond.code_spec hnamed hcode
  have hstatic : methM.isStatic = true := Cond.static_spec hnamed hmethM hstat
  obtain ⟨kP, hkP, -⟩ := className_of_methodNamed hnamed
  have hinitP : kP.init = .initialized := Cond.initialized_spec (findClass_of_methodNamed hnamed) hkP hinit
  obtain ⟨vm₁, X₁, hstep₁⟩ := X.invokestatic hexec hown hlink hnamed hmethM hstatic hkP hinitP hy (g := g) hg (argsL := argsL) (rest := rest) (hlen _ hsigM) hstack hdg
  rcases hK m meth c ⟨T.setVm vm₁, locs, cells, slots⟩ { g with stack := rest } (.invokestatic index) mk argsL.toArray X₁ hg hsize hdg hW (X₁.named hnamed) (hpre vm₁ X₁.warmed) with ⟨v, B, X', hpost, hsteps⟩ | ⟨q, B, X', hpost, hsteps⟩
  · exact Or.inl ⟨v, vm₁, B, X₁.warmed, X', hpost, fun target h => hstep₁ _ fun acts => by rw [doInvoke_state]; exact hsteps.trans h⟩
  · exact Or.inr ⟨q, vm₁, B, X₁.warmed, X', hpost, hstep₁ _ fun acts => by rw [doInvoke_state]; exact hsteps⟩
end Calls
theorem vx_cls {s : State} {T : State} {vm₁ : Vm} {E : String} {k : ClassId} (hW : s.WarmedH vm₁) (h : (T.setVm vm₁).vm.findClass E = some k) : s.vm.findClass E = some k := by
  have h1 : vm₁.findClass E = some k := h
  rw [hW.alike.findClass] at h1
  exact h1
/-- the method's frame g, with q thrown over it -/
def vx_W (p : Program) (l : Launch) (e : Env) (R : Room) (s : State) (m : MethodId) (args : Array Value) (below : List Frame) (meth : Method) (c : Code) (H : Heap) (locs : List Loc) (cells slots : Nat) (Q : State → Prop) (g : JFrame) (q : Addr) : Prop :=
  ∀ T : State, T.heap = H → Stand p l e R s m args below meth c T locs cells slots → ∃ t, Steps p.tables e below ((T.setTop g).pushFrame (.throwing q)) t ∧ Q t
def vx_Run (p : Program) (l : Launch) (e : Env) (R : Room) (s : State) (m : MethodId) (args : Array Value) (below : List Frame) (meth : Method) (c : Code) (H : Heap) (locs : List Loc) (cells slots mc ms : Nat) (g : JFrame) (rest : List Value) (Qa : State → Outcome → State → Prop) (XC : String → State → State → Prop) (free : Addr → Prop) : Prop :=
  ∀ T : State, T.heap = H → Stand p l e R s m args below meth c T locs cells slots →
    (∃ (v : Option Value) (st₀ t T' : State) (L : List Loc), st₀.heap = H ∧ Stand p l e R s m args below meth c T' (locs ++ L) (cells + mc) (slots + ms) ∧ (∀ q ∈ L, free q.base) ∧ T'.heap = t.heap ∧ T'.vm = t.vm ∧ Qa st₀ (.returned v) t ∧
      Goes p e below T g T' { g with pc := g.pc + 3, stack := v.toList ++ rest }) ∨
    (∃ (q : Addr) (st₀ t T' : State) (L : List Loc) (E : String) (ce : Cell), st₀.heap = H ∧ Stand p l e R s m args below meth c T' (locs ++ L) (cells + mc) (slots + ms) ∧ (∀ z ∈ L, free z.base) ∧ T'.heap = t.heap ∧ T'.vm = t.vm ∧ XC E st₀ t ∧ t.heap[q]? = some ce ∧ ce.vm = .none ∧ s.vm.findClass E = some ce.cls ∧
      Steps p.tables e below (T.setTop g) ((T'.setTop { g with stack := rest }).pushFrame (.throwing q)))
def vx_X {S : Type} (px : S → Prop) (B : String → S → State → Prop) (A : Nat → Prop) : String → State → State → Prop := fun E st t => ∃ u : S, px u ∧ B E u t ∧ va_F A st t
section Runs
variable {p : Program} {l : Launch} {e : Env} {R : Room} {s : State} {m : MethodId} {args : Array Value} {below : List Frame} {meth : Method} {c : Code} {H : Heap} {locs : List Loc} {cells slots : Nat}
variable {y : MethodName} {bytes cc : ByteArray} {maxL nL mc ms n index : Nat} {ret : Option FieldType} {ws : List Cond} {rm : Room} {Pc : Array Value → State → Prop} {Qc : Array Value → State → Outcome → State → Prop} {XC : String → State → State → Prop} {free : Addr → Prop} {Ts : List Cond} {own C : String} {b : Addr} {As rest : List Value} {g : JFrame}
theorem vx_callBack (cb : CallB R s args own index y bytes maxL ret ws rm mc ms n) (hM : vx_Met l y ws rm Pc Qc XC mc ms free) (hbl : FrameBlind Pc) : vx_Back l R p e below s args y 3 8 (PreOf R mc ms Pc) (PostOf Qc mc ms free) (vx_Post XC mc ms free) := by
  obtain ⟨hrc, hrs, hfr, hlo, hws, hcw, -, hini, -⟩ := cb
  exact vx_back (bytes := bytes) (maxL := maxL) (ret := ret) hM hbl hrc hrs hfr hlo hws hcw (fun a' U hW => word_at hW (Or.inl (by first | rfl | simp [Cond.onTables, Cond.keeps, Cond.steady])) hini)
theorem vx_runV (S : CallFix p m c cc nL s args Ts own) (hM : vx_Met l y ws rm Pc Qc XC mc ms free) (cw : CallW R s args own C index y bytes maxL ret ws rm mc ms n) (hp : PreV s H C b Pc As)
    (hg : g.method = m) (hn : As.length = n) (hsize : g.locals.size = nL) (hstack : g.stack = As.reverse ++ .ref b :: rest) (hW : 2 * g.monitorRoom + (rest.map fun v => v.category).sum ≤ 8) (hdg : decode cc g.pc = .ok (.invokevirtual index, 3)) (hf : cells + mc ≤ R.cells ∧ slots + ms ≤ R.slots) :
    vx_Run p l e R s m args below meth c H locs cells slots mc ms g rest (Qc (Value.ref b :: As).toArray) XC free := by
  have hK : vx_Back l R p e below s args y 3 8 (PreOf R mc ms Pc) (PostOf Qc mc ms free) (vx_Post XC mc ms free) := vx_callBack cw.1 hM hp.1
  obtain ⟨⟨-, -, -, -, -, -, hcode, -, hy, hlen, hl⟩, hin, hse⟩ := cw
  obtain ⟨hx, hb, hml, ho, -⟩ := S
  obtain ⟨-, ⟨cellB, hcB, hoB, hclB⟩, hPc⟩ := hp
  intro T hT X
  rcases vx_callV X hx (C := C) (bytes := bytes) (maxL := maxL) (ret := ret) ho hl hin hse hcode hy hK (by rw [hT]; exact hcB) hoB hclB hg (hsize.trans hml.symm) (argsL := As) (rest := rest) (fun sig h => hn.trans (hlen sig h)) hstack hW (by rw [hb]; exact hdg)
    (fun vm₁ hW₁ => ⟨hf.1, hf.2, hPc (T.setVm vm₁) hT hW₁⟩) with ⟨v, vm₁, ⟨U', l2, c2, s2⟩, hW₁, X', ⟨g', mk, t, L, e1, e2, hq, h1, hL, h2, h3⟩, st⟩ | ⟨q, vm₁, ⟨U', l2, c2, s2⟩, hW₁, X', ⟨g', mk, t, L, E, ce, e1, e2, hq, hce, hcv, hcl, h1, hL, h2, h3⟩, st⟩
  · dsimp only [Pt.U, Pt.locs, Pt.cells, Pt.slots] at X' e1 e2 h1 h2 h3 st
    subst h1; subst h2; subst h3
    exact Or.inl ⟨v, (T.setVm vm₁).calling g' mk (Value.ref b :: As).toArray, t, U', L, hT, X', hL, e1, e2, hq, st⟩
  · dsimp only [Pt.U, Pt.locs, Pt.cells, Pt.slots] at X' e1 e2 h1 h2 h3 st hcl
    subst h1; subst h2; subst h3
    exact Or.inr ⟨q, (T.setVm vm₁).calling g' mk (Value.ref b :: As).toArray, t, U', L, E, ce, hT, X', hL, e1, e2, hq, hce, hcv, vx_cls hW₁ hcl, st⟩
theorem vx_runS (S : CallFix p m c cc nL s args Ts own) (hM : vx_Met l y ws rm Pc Qc XC mc ms free) (cw : CallB R s args own index y bytes maxL ret ws rm mc ms n ∧ (Cond.static y).before args s = true) (hp : PreS s H Pc As)
    (hg : g.method = m) (hn : As.length = n) (hsize : g.locals.size = nL) (hstack : g.stack = As.reverse ++ rest) (hW : 2 * g.monitorRoom + (rest.map fun v => v.category).sum ≤ 8) (hdg : decode cc g.pc = .ok (.invokestatic index, 3)) (hf : cells + mc ≤ R.cells ∧ slots + ms ≤ R.slots) :
    vx_Run p l e R s m args below meth c H locs cells slots mc ms g rest (Qc As.toArray) XC free := by
  have hK : vx_Back l R p e below s args y 3 8 (PreOf R mc ms Pc) (PostOf Qc mc ms free) (vx_Post XC mc ms free) := vx_callBack cw.1 hM hp.1
  obtain ⟨⟨-, -, -, -, -, -, hcode, hini, hy, hlen, hl⟩, hstt⟩ := cw
  obtain ⟨hx, hb, hml, ho, -⟩ := S
  intro T hT X
  rcases vx_callS X hx (bytes := bytes) (maxL := maxL) (ret := ret) ho hl hstt hini hcode hy hK hg (hsize.trans hml.symm) (argsL := As) (rest := rest) (fun sig h => hn.trans (hlen sig h)) hstack hW (by rw [hb]; exact hdg)
    (fun vm₁ hW₁ => ⟨hf.1, hf.2, hp.2 (T.setVm vm₁) hT hW₁⟩) with ⟨v, vm₁, ⟨U', l2, c2, s2⟩, hW₁, X', ⟨g', mk, t, L, e1, e2, hq, h1, hL, h2, h3⟩, st⟩ | ⟨q, vm₁, ⟨U', l2, c2, s2⟩, hW₁, X', ⟨g', mk, t, L, E, ce, e1, e2, hq, hce, hcv, hcl, h1, hL, h2, h3⟩, st⟩
  · dsimp only [Pt.U, Pt.locs, Pt.cells, Pt.slots] at X' e1 e2 h1 h2 h3 st
    subst h1; subst h2; subst h3
    exact Or.inl ⟨v, (T.setVm vm₁).calling g' mk As.toArray, t, U', L, hT, X', hL, e1, e2, hq, st⟩
  · dsimp only [Pt.U, Pt.locs, Pt.cells, Pt.slots] at X' e1 e2 h1 h2 h3 st hcl
    subst h1; subst h2; subst h3
    exact Or.inr ⟨q, (T.setVm vm₁).calling g' mk As.toArray, t, U', L, E, ce, hT, X', hL, e1, e2, hq, hce, hcv, vx_cls hW₁ hcl, st⟩
end Runs
section Rows
variable {p : Program} {l : Launch} {e : Env} {R : Room} {s : State} {m : MethodId} {args : Array Value} {below : List Frame} {meth : Method} {c : Code} {H : Heap} {locs : List Loc} {cells slots : Nat} {Q : State → Prop}
variable {mc ms : Nat} {free : Addr → Prop} {A0 A1 : Nat → Prop} {H0 : Heap} {a : Array Value} {pc : Nat} {ls : Array Slot} {st0 rest : List Value}
theorem vx_keep {st₀ t T' : State} {L : List Loc} (h0 : st₀.heap = H) (e1 : T'.heap = t.heap) (hS : va_S A0 H0 H locs) (hA : ∀ q, q < H.size → A1 q → A0 q) (hf : ∀ q, free q → A0 q) (hL : ∀ q ∈ L, free q.base) (hF : va_F A1 st₀ t) :
    H.size ≤ T'.heap.size ∧ (∀ q : Nat, q < H.size → ¬ A1 q → T'.heap[q]? = H[q]?) ∧ va_S A0 H0 T'.heap (locs ++ L) := by
  obtain ⟨hz, hk⟩ := hF
  rw [h0] at hz hk
  exact ⟨by rw [e1]; exact hz, fun q h1 h2 => by rw [e1]; exact hk q h1 h2,
    ⟨Nat.le_trans hS.1 (by rw [e1]; exact hz), fun q h1 h2 => by rw [e1, hk q (Nat.lt_of_lt_of_le h1 hS.1) (fun z => h2 (hA q (Nat.lt_of_lt_of_le h1 hS.1) z))]; exact hS.2.1 q h1 h2, fun q hq => by
      rcases List.mem_append.mp hq with h | h
      · exact hS.2.2 q h
      · exact hf _ (hL q h)⟩⟩
theorem vx_calli {S SX : Type} {post : Int32 → S → Prop} {px : SX → Prop} {B : S → State → Prop} {BX : String → SX → State → Prop} {AX : Nat → Prop} (hr : vx_Run p l e R s m args below meth c H locs cells slots mc ms (F0 m pc ls st0) rest (va_Qi post B A1 a) (vx_X px BX AX) free) (hS : va_S A0 H0 H locs) (hA : ∀ q, q < H.size → A1 q → A0 q) (hf : ∀ q, free q → A0 q) (hAX : ∀ q, q < H.size → AX q → A0 q)
    (kx : ∀ (E : String) (ce : Cell) (q9 : Addr) (u : SX) (t : State) (H1 : Heap) (locs1 : List Loc), t.heap = H1 → s.vm.Alike t.vm → px u → BX E u t → H.size ≤ H1.size → (∀ q : Nat, q < H.size → ¬ AX q → H1[q]? = H[q]?) → va_S A0 H0 H1 locs1 → H1[q9]? = some ce → ce.vm = .none → s.vm.findClass E = some ce.cls → vx_W p l e R s m args below meth c H1 locs1 (cells + mc) (slots + ms) Q (F0 m pc ls rest) q9)
    (kk : ∀ (r : Int32) (u : S) (t : State) (H1 : Heap) (locs1 : List Loc), t.heap = H1 → s.vm.Alike t.vm → post r u → B u t → H.size ≤ H1.size → (∀ q : Nat, q < H.size → ¬ A1 q → H1[q]? = H[q]?) → va_S A0 H0 H1 locs1 → W p l e R s m args below meth c H1 locs1 (cells + mc) (slots + ms) Q (F0 m (pc + 3) ls (.int r :: rest))) : W p l e R s m args below meth c H locs cells slots Q (F0 m pc ls st0) := by
  intro T hT X
  rcases hr T hT X with ⟨v, st₀, t, T', L, h0, X', hL, e1, e2, ⟨⟨r, u, hv, hp, hb⟩, hF⟩, st⟩ | ⟨q, st₀, t, T', L, E, ce, h0, X', hL, e1, e2, ⟨u, hp, hb, hF⟩, hce, hcv, hcl, st⟩
  · cases hv
    obtain ⟨k1, k2, k3⟩ := vx_keep h0 e1 hS hA hf hL hF
    obtain ⟨t2, a1, b1⟩ := kk r u t T'.heap (locs ++ L) e1.symm (by rw [← e2]; exact X'.warmed.alike) hp hb k1 k2 k3 T' rfl X'
    exact ⟨t2, st t2 a1, b1⟩
  · obtain ⟨k1, k2, k3⟩ := vx_keep h0 e1 hS hAX hf hL hF
    obtain ⟨t2, a1, b1⟩ := kx E ce q u t T'.heap (locs ++ L) e1.symm (by rw [← e2]; exact X'.warmed.alike) hp hb k1 k2 k3 (by rw [e1]; exact hce) hcv hcl T' rfl X'
    exact ⟨t2, st.trans a1, b1⟩
theorem vx_calll {S SX : Type} {post : Int64 → S → Prop} {px : SX → Prop} {B : S → State → Prop} {BX : String → SX → State → Prop} {AX : Nat → Prop} (hr : vx_Run p l e R s m args below meth c H locs cells slots mc ms (F0 m pc ls st0) rest (va_Ql post B A1 a) (vx_X px BX AX) free) (hS : va_S A0 H0 H locs) (hA : ∀ q, q < H.size → A1 q → A0 q) (hf : ∀ q, free q → A0 q) (hAX : ∀ q, q < H.size → AX q → A0 q)
    (kx : ∀ (E : String) (ce : Cell) (q9 : Addr) (u : SX) (t : State) (H1 : Heap) (locs1 : List Loc), t.heap = H1 → s.vm.Alike t.vm → px u → BX E u t → H.size ≤ H1.size → (∀ q : Nat, q < H.size → ¬ AX q → H1[q]? = H[q]?) → va_S A0 H0 H1 locs1 → H1[q9]? = some ce → ce.vm = .none → s.vm.findClass E = some ce.cls → vx_W p l e R s m args below meth c H1 locs1 (cells + mc) (slots + ms) Q (F0 m pc ls rest) q9)
    (kk : ∀ (r : Int64) (u : S) (t : State) (H1 : Heap) (locs1 : List Loc), t.heap = H1 → s.vm.Alike t.vm → post r u → B u t → H.size ≤ H1.size → (∀ q : Nat, q < H.size → ¬ A1 q → H1[q]? = H[q]?) → va_S A0 H0 H1 locs1 → W p l e R s m args below meth c H1 locs1 (cells + mc) (slots + ms) Q (F0 m (pc + 3) ls (.long r :: rest))) : W p l e R s m args below meth c H locs cells slots Q (F0 m pc ls st0) := by
  intro T hT X
  rcases hr T hT X with ⟨v, st₀, t, T', L, h0, X', hL, e1, e2, ⟨⟨r, u, hv, hp, hb⟩, hF⟩, st⟩ | ⟨q, st₀, t, T', L, E, ce, h0, X', hL, e1, e2, ⟨u, hp, hb, hF⟩, hce, hcv, hcl, st⟩
  · cases hv
    obtain ⟨k1, k2, k3⟩ := vx_keep h0 e1 hS hA hf hL hF
    obtain ⟨t2, a1, b1⟩ := kk r u t T'.heap (locs ++ L) e1.symm (by rw [← e2]; exact X'.warmed.alike) hp hb k1 k2 k3 T' rfl X'
    exact ⟨t2, st t2 a1, b1⟩
  · obtain ⟨k1, k2, k3⟩ := vx_keep h0 e1 hS hAX hf hL hF
    obtain ⟨t2, a1, b1⟩ := kx E ce q u t T'.heap (locs ++ L) e1.symm (by rw [← e2]; exact X'.warmed.alike) hp hb k1 k2 k3 (by rw [e1]; exact hce) hcv hcl T' rfl X'
    exact ⟨t2, st.trans a1, b1⟩
theorem vx_callf {S SX : Type} {post : UInt32 → S → Prop} {px : SX → Prop} {B : S → State → Prop} {BX : String → SX → State → Prop} {AX : Nat → Prop} (hr : vx_Run p l e R s m args below meth c H locs cells slots mc ms (F0 m pc ls st0) rest (va_Qf post B A1 a) (vx_X px BX AX) free) (hS : va_S A0 H0 H locs) (hA : ∀ q, q < H.size → A1 q → A0 q) (hf : ∀ q, free q → A0 q) (hAX : ∀ q, q < H.size → AX q → A0 q)
    (kx : ∀ (E : String) (ce : Cell) (q9 : Addr) (u : SX) (t : State) (H1 : Heap) (locs1 : List Loc), t.heap = H1 → s.vm.Alike t.vm → px u → BX E u t → H.size ≤ H1.size → (∀ q : Nat, q < H.size → ¬ AX q → H1[q]? = H[q]?) → va_S A0 H0 H1 locs1 → H1[q9]? = some ce → ce.vm = .none → s.vm.findClass E = some ce.cls → vx_W p l e R s m args below meth c H1 locs1 (cells + mc) (slots + ms) Q (F0 m pc ls rest) q9)
    (kk : ∀ (r : UInt32) (u : S) (t : State) (H1 : Heap) (locs1 : List Loc), t.heap = H1 → s.vm.Alike t.vm → post r u → B u t → H.size ≤ H1.size → (∀ q : Nat, q < H.size → ¬ A1 q → H1[q]? = H[q]?) → va_S A0 H0 H1 locs1 → W p l e R s m args below meth c H1 locs1 (cells + mc) (slots + ms) Q (F0 m (pc + 3) ls (.float r :: rest))) : W p l e R s m args below meth c H locs cells slots Q (F0 m pc ls st0) := by
  intro T hT X
  rcases hr T hT X with ⟨v, st₀, t, T', L, h0, X', hL, e1, e2, ⟨⟨r, u, hv, hp, hb⟩, hF⟩, st⟩ | ⟨q, st₀, t, T', L, E, ce, h0, X', hL, e1, e2, ⟨u, hp, hb, hF⟩, hce, hcv, hcl, st⟩
  · cases hv
    obtain ⟨k1, k2, k3⟩ := vx_keep h0 e1 hS hA hf hL hF
    obtain ⟨t2, a1, b1⟩ := kk r u t T'.heap (locs ++ L) e1.symm (by rw [← e2]; exact X'.warmed.alike) hp hb k1 k2 k3 T' rfl X'
    exact ⟨t2, st t2 a1, b1⟩
  · obtain ⟨k1, k2, k3⟩ := vx_keep h0 e1 hS hAX hf hL hF
    obtain ⟨t2, a1, b1⟩ := kx E ce q u t T'.heap (locs ++ L) e1.symm (by rw [← e2]; exact X'.warmed.alike) hp hb k1 k2 k3 (by rw [e1]; exact hce) hcv hcl T' rfl X'
    exact ⟨t2, st.trans a1, b1⟩
theorem vx_calld {S SX : Type} {post : UInt64 → S → Prop} {px : SX → Prop} {B : S → State → Prop} {BX : String → SX → State → Prop} {AX : Nat → Prop} (hr : vx_Run p l e R s m args below meth c H locs cells slots mc ms (F0 m pc ls st0) rest (va_Qd post B A1 a) (vx_X px BX AX) free) (hS : va_S A0 H0 H locs) (hA : ∀ q, q < H.size → A1 q → A0 q) (hf : ∀ q, free q → A0 q) (hAX : ∀ q, q < H.size → AX q → A0 q)
    (kx : ∀ (E : String) (ce : Cell) (q9 : Addr) (u : SX) (t : State) (H1 : Heap) (locs1 : List Loc), t.heap = H1 → s.vm.Alike t.vm → px u → BX E u t → H.size ≤ H1.size → (∀ q : Nat, q < H.size → ¬ AX q → H1[q]? = H[q]?) → va_S A0 H0 H1 locs1 → H1[q9]? = some ce → ce.vm = .none → s.vm.findClass E = some ce.cls → vx_W p l e R s m args below meth c H1 locs1 (cells + mc) (slots + ms) Q (F0 m pc ls rest) q9)
    (kk : ∀ (r : UInt64) (u : S) (t : State) (H1 : Heap) (locs1 : List Loc), t.heap = H1 → s.vm.Alike t.vm → post r u → B u t → H.size ≤ H1.size → (∀ q : Nat, q < H.size → ¬ A1 q → H1[q]? = H[q]?) → va_S A0 H0 H1 locs1 → W p l e R s m args below meth c H1 locs1 (cells + mc) (slots + ms) Q (F0 m (pc + 3) ls (.double r :: rest))) : W p l e R s m args below meth c H locs cells slots Q (F0 m pc ls st0) := by
  intro T hT X
  rcases hr T hT X with ⟨v, st₀, t, T', L, h0, X', hL, e1, e2, ⟨⟨r, u, hv, hp, hb⟩, hF⟩, st⟩ | ⟨q, st₀, t, T', L, E, ce, h0, X', hL, e1, e2, ⟨u, hp, hb, hF⟩, hce, hcv, hcl, st⟩
  · cases hv
    obtain ⟨k1, k2, k3⟩ := vx_keep h0 e1 hS hA hf hL hF
    obtain ⟨t2, a1, b1⟩ := kk r u t T'.heap (locs ++ L) e1.symm (by rw [← e2]; exact X'.warmed.alike) hp hb k1 k2 k3 T' rfl X'
    exact ⟨t2, st t2 a1, b1⟩
  · obtain ⟨k1, k2, k3⟩ := vx_keep h0 e1 hS hAX hf hL hF
    obtain ⟨t2, a1, b1⟩ := kx E ce q u t T'.heap (locs ++ L) e1.symm (by rw [← e2]; exact X'.warmed.alike) hp hb k1 k2 k3 (by rw [e1]; exact hce) hcv hcl T' rfl X'
    exact ⟨t2, st.trans a1, b1⟩
theorem vx_callv {S SX : Type} {post : S → Prop} {px : SX → Prop} {B : S → State → Prop} {BX : String → SX → State → Prop} {AX : Nat → Prop} (hr : vx_Run p l e R s m args below meth c H locs cells slots mc ms (F0 m pc ls st0) rest (va_Qv post B A1 a) (vx_X px BX AX) free) (hS : va_S A0 H0 H locs) (hA : ∀ q, q < H.size → A1 q → A0 q) (hf : ∀ q, free q → A0 q) (hAX : ∀ q, q < H.size → AX q → A0 q)
    (kx : ∀ (E : String) (ce : Cell) (q9 : Addr) (u : SX) (t : State) (H1 : Heap) (locs1 : List Loc), t.heap = H1 → s.vm.Alike t.vm → px u → BX E u t → H.size ≤ H1.size → (∀ q : Nat, q < H.size → ¬ AX q → H1[q]? = H[q]?) → va_S A0 H0 H1 locs1 → H1[q9]? = some ce → ce.vm = .none → s.vm.findClass E = some ce.cls → vx_W p l e R s m args below meth c H1 locs1 (cells + mc) (slots + ms) Q (F0 m pc ls rest) q9)
    (kk : ∀ (u : S) (t : State) (H1 : Heap) (locs1 : List Loc), t.heap = H1 → s.vm.Alike t.vm → post u → B u t → H.size ≤ H1.size → (∀ q : Nat, q < H.size → ¬ A1 q → H1[q]? = H[q]?) → va_S A0 H0 H1 locs1 → W p l e R s m args below meth c H1 locs1 (cells + mc) (slots + ms) Q (F0 m (pc + 3) ls (rest))) : W p l e R s m args below meth c H locs cells slots Q (F0 m pc ls st0) := by
  intro T hT X
  rcases hr T hT X with ⟨v, st₀, t, T', L, h0, X', hL, e1, e2, ⟨⟨u, hv, hp, hb⟩, hF⟩, st⟩ | ⟨q, st₀, t, T', L, E, ce, h0, X', hL, e1, e2, ⟨u, hp, hb, hF⟩, hce, hcv, hcl, st⟩
  · cases hv
    obtain ⟨k1, k2, k3⟩ := vx_keep h0 e1 hS hA hf hL hF
    obtain ⟨t2, a1, b1⟩ := kk u t T'.heap (locs ++ L) e1.symm (by rw [← e2]; exact X'.warmed.alike) hp hb k1 k2 k3 T' rfl X'
    exact ⟨t2, st t2 a1, b1⟩
  · obtain ⟨k1, k2, k3⟩ := vx_keep h0 e1 hS hAX hf hL hF
    obtain ⟨t2, a1, b1⟩ := kx E ce q u t T'.heap (locs ++ L) e1.symm (by rw [← e2]; exact X'.warmed.alike) hp hb k1 k2 k3 (by rw [e1]; exact hce) hcv hcl T' rfl X'
    exact ⟨t2, st.trans a1, b1⟩
/-- caught by the row x of this method's table; the rows ahead don't take it -/
theorem vx_catch {own name : String} {E : String} {ce : Cell} {q : Addr} (hown : s.vm.findClass own = some m.cls) (pre : List ExceptionTableEntry) (x : ExceptionTableEntry) (suf : List ExceptionTableEntry) (hsplit : c.exceptionTable.toList = pre ++ x :: suf)
    (hpass : ∀ z ∈ pre, covers z pc = false ∨ (z.catchType ≠ 0 ∧ ∃ nm : String, (Cond.classLink own z.catchType nm).before args s = true ∧ va_Nc E nm s)) (hx : covers x pc = true) (h0 : x.catchType ≠ 0)
    (hlink : (Cond.classLink own x.catchType name).before args s = true) (hcast : (Cond.castable E name).before args s = true) (hcell : H[q]? = some ce) (hv : ce.vm = .none) (hcl : s.vm.findClass E = some ce.cls)
    (kk : W p l e R s m args below meth c H locs cells slots Q (F0 m x.handlerPc ls [.ref q])) : vx_W p l e R s m args below meth c H locs cells slots Q (F0 m pc ls rest) q := by
  intro T hT X
  have hpl : e.platform.magicAccessors = ({} : Platform).magicAccessors := by rw [X.admits.platform]
  obtain ⟨c3, c4, hc3, hc4, hasg⟩ := Cond.castable_spec hcast
  cases Option.some.inj (hc3.symm.trans hcl)
  obtain ⟨c5, hc5, hcl5⟩ := Cond.classLink_spec hown hlink e.platform hpl
  cases Option.some.inj (hc4.symm.trans hc5)
  obtain ⟨vm', X', st⟩ := X.thenCaughtThrough q (g := F0 m pc ls rest) rfl (Steps.refl _) (by rw [hT]; exact hcell) (by rw [hv]; rfl) (by obtain ⟨k9, h9, -⟩ := Vm.findClass_spec hcl; exact ⟨k9, h9⟩) pre x suf hsplit
    (fun z hz => by
      rcases hpass z hz with h | ⟨hz0, nm, hl1, hn1⟩
      · exact Or.inl h
      · obtain ⟨c6, hc6, hcl6⟩ := Cond.classLink_spec hown hl1 e.platform hpl
        obtain ⟨a8, b8, h1, h2, h3⟩ := hn1
        cases Option.some.inj (h1.symm.trans hcl)
        cases Option.some.inj (h2.symm.trans hc6)
        exact Or.inr ⟨hz0, _, hcl6, h3⟩) hx (Or.inr ⟨h0, c4, hcl5, hasg⟩)
  obtain ⟨t, a1, b1⟩ := kk (T.setVm vm') hT X'
  exact ⟨t, st.trans a1, b1⟩
end Rows
section Ends
variable {p : Program} {l : Launch} {e : Env} {R : Room} {s : State} {m : MethodId} {args : Array Value} {below : List Frame} {meth : Method} {c : Code} {H : Heap} {locs : List Loc} {cells slots : Nat} {Q : State → Prop}
variable {mc ms : Nat} {free : Addr → Prop} {A0 A1 : Nat → Prop} {H0 : Heap} {a : Array Value} {ls : Array Slot} {st0 rest : List Value}
variable {Qc : Array Value → State → Outcome → State → Prop} {XC : String → State → State → Prop}
/-- what a body that may throw owes at its end -/
def vx_MQ (below : List Frame) (Qc : Array Value → State → Outcome → State → Prop) (XC : String → State → State → Prop) (a : Array Value) (s : State) (mc ms : Nat) (free : Addr → Prop) : State → Prop := fun t =>
  ∃ o, t.status = .running ∧ Ended t below o ∧ vx_Q Qc XC mc ms free a s o t
theorem vx_ret {g : JFrame} {mc ms : Nat} (k : W p l e R s m args below meth c H locs cells slots (MQ below Qc args s mc ms free) g) : W p l e R s m args below meth c H locs cells slots (vx_MQ below Qc XC args s mc ms free) g := by
  intro T hT X
  obtain ⟨t, a1, o, b1, b2, b3, b4⟩ := k T hT X
  exact ⟨t, a1, o, b1, b2, Or.inl ⟨b3, b4⟩⟩
/-- not caught here: it goes on to the caller -/
theorem vx_widen {g : JFrame} {q : Addr} {k n : Nat} (h1 : cells ≤ k) (h2 : slots ≤ n) (kk : vx_W p l e R s m args below meth c H locs k n Q g q) : vx_W p l e R s m args below meth c H locs cells slots Q g q := fun T hT X => kk T hT (stand_widen X h1 h2)
theorem vx_out {pc : Nat} {E : String} {ce : Cell} {q : Addr} {mc ms : Nat} (hout : ∀ x ∈ c.exceptionTable.toList, covers x pc = false) (hlocks : meth.locks = false) (hcell : H[q]? = some ce) (hv : ce.vm = .none) (hcl : s.vm.findClass E = some ce.cls)
    (hx : ∀ t : State, t.heap = H → s.vm.Alike t.vm → XC E s t) (hf : ∀ z ∈ locs, free z.base) (hc : cells ≤ mc) (hs : slots ≤ ms) :
    vx_W p l e R s m args below meth c H locs cells slots (vx_MQ below Qc XC args s mc ms free) (F0 m pc ls rest) q := by
  intro T hT X
  obtain ⟨st1, hrun, hend, hW, hsm⟩ := X.leaveThrown q (g := F0 m pc ls rest) rfl rfl rfl hout hlocks
  have hcell9 : (T.setFrames (.throwing q :: below)).heap[q]? = some ce := by
    show T.heap[q]? = some ce
    rw [hT]; exact hcell
  exact ⟨_, st1, .threw q, hrun, hend, Or.inr ⟨q, rfl, E, ce, locs, hx _ hT hW.alike, hcell9, hv, hcl, hW, hsm.mono hc hs, hf⟩⟩
theorem vx_frame {U : State} {k n : Nat} (h : s.sameButNew ({ U with vm := s.vm } : State) locs k n) : s.heap.size ≤ U.heap.size ∧ ∀ q : Nat, q < s.heap.size → (∀ z ∈ locs, z.base ≠ q) → U.heap[q]? = s.heap[q]? := by
  obtain ⟨-, h2, -, -, -, h6⟩ := h
  refine ⟨h2, fun q hq hz => ?_⟩
  obtain ⟨c9, e1, e2, e3, e4⟩ := h6 q _ (Array.getElem?_eq_getElem hq)
  have hs : c9.slots = (s.heap[q]).slots := Array.ext_getElem? fun i => e4 i fun hm => hz _ hm rfl
  have h9 : c9 = s.heap[q] := by
    rw [hs] at e2
    exact e2
  have e5 : U.heap[q]? = some c9 := e1
  rw [e5, h9, Array.getElem?_eq_getElem hq]
/-- the words of a throw but the four that speak of the heap -/
def vx_no (w : Cond) : Bool := decide (w ≠ .isRef (.static Bundle.tN "UNASSIGNED_STACK" Bundle.steD)) && decide (w ≠ .isRef (.static Bundle.tN "SUPPRESSED_SENTINEL" Bundle.listD)) && decide (w ≠ .laysStatic Bundle.tN "UNASSIGNED_STACK" Bundle.steD) && decide (w ≠ .laysStatic Bundle.tN "SUPPRESSED_SENTINEL" Bundle.listD)
def vx_at0 (own : String) (ic : Nat) (X : String) (names : List String) : List Cond := (Bundle.ownAtoms0 own ic X names).filter vx_no
def vx_atS (own : String) (ic : Nat) (X : String) (names : List String) : List Cond := (Bundle.ownAtoms own ic X names).filter vx_no
/-- a word that the tables alone decide, or a good one -/
def vx_ot (w : Cond) : Bool := w.onTables || goodWord w
theorem vx_ot_at {args a' : Array Value} {s U : State} {w : Cond} (hW : s.WarmedH U.vm) (hvm : s.vm = U.vm) (hg : vx_ot w = true) (h : w.before args s = true) : w.before a' U = true := by
  simp only [vx_ot, Bool.or_eq_true] at hg
  rcases hg with hg | hg
  · exact va_tabs hg hvm h
  · exact word_at hW (good_of_word hg) h
/-- a list's words: the good ones out of the method's own list, the others by premises of their own -/
theorem vx_hat {args : Array Value} {s : State} {L B : List Cond} (h1 : ∀ w ∈ L.filter goodWord, w.before args s = true) (h2 : ∀ w ∈ L.filter (fun w => !goodWord w), w ∈ B) (h3 : ∀ w ∈ B, w.before args s = true) : ∀ w ∈ L, w.before args s = true := by
  intro w hw
  by_cases g : goodWord w = true
  · exact h1 w (List.mem_filter.mpr ⟨hw, g⟩)
  · refine h3 w (h2 w (List.mem_filter.mpr ⟨hw, ?_⟩))
    show (!goodWord w) = true
    cases hgw : goodWord w
    · rfl
    · exact absurd hgw g
theorem vx_c {args : Array Value} {s : State} {w : Cond} {B : List Cond} (h : w.before args s = true) (t : ∀ w ∈ B, w.before args s = true) : ∀ w' ∈ w :: B, w'.before args s = true := fun w' h' => (List.mem_cons.mp h').elim (fun e => by rw [e]; exact h) (t w')
theorem vx_n {args : Array Value} {s : State} : ∀ w ∈ ([] : List Cond), w.before args s = true := fun _ h => nomatch h
theorem vx_own {args : Array Value} {s : State} {L : List Cond} (h1 : ∀ w ∈ L.filter vx_no, w.before args s = true)
    (hU : (Cond.isRef (.static Bundle.tN "UNASSIGNED_STACK" Bundle.steD)).before args s = true) (hN : (Cond.isRef (.static Bundle.tN "SUPPRESSED_SENTINEL" Bundle.listD)).before args s = true)
    (lU : (Cond.laysStatic Bundle.tN "UNASSIGNED_STACK" Bundle.steD).before args s = true) (lN : (Cond.laysStatic Bundle.tN "SUPPRESSED_SENTINEL" Bundle.listD).before args s = true) : ∀ w ∈ L, w.before args s = true := by
  intro w hw
  by_cases e1 : w = .isRef (.static Bundle.tN "UNASSIGNED_STACK" Bundle.steD)
  · rw [e1]; exact hU
  · by_cases e2 : w = .isRef (.static Bundle.tN "SUPPRESSED_SENTINEL" Bundle.listD)
    · rw [e2]; exact hN
    · by_cases e3 : w = .laysStatic Bundle.tN "UNASSIGNED_STACK" Bundle.steD
      · rw [e3]; exact lU
      · by_cases e4 : w = .laysStatic Bundle.tN "SUPPRESSED_SENTINEL" Bundle.listD
        · rw [e4]; exact lN
        · exact h1 w (List.mem_filter.mpr ⟨hw, by unfold vx_no; rw [decide_eq_true e1, decide_eq_true e2, decide_eq_true e3, decide_eq_true e4]; rfl⟩)
/-- where a static field lies, its class's statics cell in H -/
def vx_L (C n d : String) (A : Nat → Prop) (U : State) (H : Heap) : Prop := ∃ (c : ClassId) (k : Class) (i : Nat) (f : Field) (a : Nat) (cell : Cell), U.vm.findClass C = some c ∧ U.fieldFound? C n d = some (c, k, i, f) ∧ f.isStatic = true ∧ k.statics = some a ∧ H[a]? = some cell ∧ cell.vm.isStatics = true ∧ cell.cls = c ∧ f.slot < cell.slots.size ∧ k.staticTypes[f.slot]? = some f.type ∧ ¬ A a
theorem vx_L.moved {C n d : String} {A : Nat → Prop} {u U : State} {H : Heap} (hvm : u.vm.Alike U.vm) (h : vx_L C n d A u H) : vx_L C n d A U H := by
  obtain ⟨c, k, i, f, a, cell, h1, h2, h3, h4, h5, h6, h7, h8, h9, h10⟩ := h
  obtain ⟨k', hi', he⟩ := State.fieldFound?_setVm hvm h2
  exact ⟨c, k', i, f, a, cell, by rw [hvm.findClass]; exact h1, hi', h3, by rw [he]; exact h4, h5, h6, h7, h8, by rw [he]; exact h9, h10⟩
theorem vx_L.kept {C n d : String} {A : Nat → Prop} {U : State} {H H1 : Heap} (h : vx_L C n d A U H) (hq : ∀ a : Nat, a < H.size → ¬ A a → H1[a]? = H[a]?) : vx_L C n d A U H1 := by
  obtain ⟨c, k, i, f, a, cell, h1, h2, h3, h4, h5, h6, h7, h8, h9, h10⟩ := h
  exact ⟨c, k, i, f, a, cell, h1, h2, h3, h4, by rw [hq a (Array.getElem?_eq_some_iff.mp h5).1 h10]; exact h5, h6, h7, h8, h9, h10⟩
theorem vx_L.narrow {C n d : String} {A B : Nat → Prop} {U : State} {H : Heap} (h : vx_L C n d A U H) (hAB : ∀ q, B q → A q) : vx_L C n d B U H := by
  obtain ⟨c, k, i, f, a, cell, h1, h2, h3, h4, h5, h6, h7, h8, h9, h10⟩ := h
  exact ⟨c, k, i, f, a, cell, h1, h2, h3, h4, h5, h6, h7, h8, h9, fun z => h10 (hAB _ z)⟩
theorem vx_L.word {C n d : String} {A : Nat → Prop} {s : State} {args : Array Value} (h : vx_L C n d A s s.heap) : (Cond.laysStatic C n d).before args s = true := by
  obtain ⟨c, k, i, f, a, cell, h1, h2, h3, h4, h5, h6, h7, h8, h9, -⟩ := h
  show (Cond.laysStatic C n d).holds args s none s [] = true
  exact Cond.laysStatic_of h1 h2 h3 h4 h5 h6 h7 h8 h9
/-- .. and what it holds: null or some reference -/
def vx_Zq (C n d : String) (A : Nat → Prop) (U : State) (H : Heap) : Prop := va_Zq C n d A U H ∧ vx_L C n d A U H
theorem vx_Zq.moved {C n d : String} {A : Nat → Prop} {u U : State} {H : Heap} (hvm : u.vm.Alike U.vm) (h : vx_Zq C n d A u H) : vx_Zq C n d A U H := ⟨va_Zq.moved hvm h.1, vx_L.moved hvm h.2⟩
theorem vx_Zq.kept {C n d : String} {A : Nat → Prop} {U : State} {H H1 : Heap} (h : vx_Zq C n d A U H) (hq : ∀ a : Nat, a < H.size → ¬ A a → H1[a]? = H[a]?) : vx_Zq C n d A U H1 := ⟨va_Zq.kept h.1 hq, vx_L.kept h.2 hq⟩
theorem vx_Zq.narrow {C n d : String} {A B : Nat → Prop} {U : State} {H : Heap} (h : vx_Zq C n d A U H) (hAB : ∀ q, B q → A q) : vx_Zq C n d B U H := ⟨va_Zq.narrow h.1 hAB, vx_L.narrow h.2 hAB⟩
theorem vx_Zqof {args : Array Value} {s : State} {C n d : String} {A : Nat → Prop} (hl : (Cond.laysStatic C n d).before args s = true) (hini : (Cond.initialized C).before args s = true) (h : (Cond.isRef (.static C n d)).before args s = true) (hA : ∀ a : Nat, a < s.heap.size → ¬ A a) : vx_Zq C n d A s s.heap := by
  refine ⟨va_Zqof hl hini h hA, ?_⟩
  obtain ⟨c, k, i, f, a, cell, h1, h2, h3, h4, h5, h6, h7, h8, h9⟩ := Cond.laysStatic_spec hl
  exact ⟨c, k, i, f, a, cell, h1, h2, h3, h4, h5, h6, h7, h8, h9, hA a (Array.getElem?_eq_some_iff.mp h5).1⟩
theorem vx_isRef {C n d : String} {v : Value} {A : Nat → Prop} {s : State} {args : Array Value} (h : va_Z C n d v A s s.heap) (hv : v.isRef = true) : (Cond.isRef (.static C n d)).before args s = true := by
  obtain ⟨cf, kf, fi, f, a, cell, h1, h2, h3, h4, h5, h6, h7, -⟩ := h
  have he : (Term.static C n d).eval args s none [] s = some v := by
    simp [Term.eval, State.fieldNamed?, h1, h2, h4, h5, h6, h7]
  simp only [Cond.before, Cond.holds, Cond.value, he]
  cases v <;> simp_all [Value.isRef]
theorem vx_isRefq {C n d : String} {A : Nat → Prop} {s : State} {args : Array Value} (h : va_Zq C n d A s s.heap) : (Cond.isRef (.static C n d)).before args s = true := by
  rcases h with h | ⟨t, h⟩
  · exact vx_isRef h rfl
  · exact vx_isRef h rfl
/-- the same frame, seen from here: as if the method were called anew in this heap -/
theorem vx_rebase {T : State} (X : Stand p l e R s m args below meth c T locs cells slots) {R' : Room} (hf : R'.frames ≤ R.frames) (hl : R'.locals ≤ R.locals) (hc : cells + R'.cells ≤ R.cells) (hs : slots + R'.slots ≤ R.slots) :
    Stand p l e R' ((T.setVm s.vm).setFrames (.invoking m args :: below)) m args below meth c T [] 0 0 := by
  have htop : (T.setVm s.vm).topJava?.isSome := X.here.top
  have hF : ((T.setVm s.vm).setFrames (.invoking m args :: below)).frames = .invoking m args :: below := State.frames_setFrames _ (State.cur_lt_of_top htop)
  obtain ⟨g₀, hg0⟩ := Option.isSome_iff_exists.mp htop
  obtain ⟨r, hr⟩ := State.topJava?_eq_some.mp hg0
  have hl9 : e.platform.stackLimits (T.setVm s.vm).me = e.platform.stackLimits s.me := X.limits
  have hb9 : (T.setVm s.vm).me.stackBytes = s.me.stackBytes := X.bytes
  refine ⟨X.admits, X.cas, X.clock, hF, ?_, X.hears, X.method, X.code, X.here, X.tail, X.warmed, ?_, ?_, ?_⟩
  · have h := X.room
    have hU : ((T.setVm s.vm).setFrames (.invoking m args :: below)).localsInUse = s.localsInUse := by
      rw [State.localsInUse_invoking hF (meth := meth) (c := c) X.method X.code, State.localsInUse_invoking X.frames X.method X.code]
    simp only [State.hasRoom, Bool.and_eq_true, decide_eq_true_eq] at h ⊢
    obtain ⟨⟨⟨⟨h1, h2, h3, h4, h5, h6⟩, h7⟩, h8⟩, h9⟩ := h
    rw [X.frames, List.length_cons] at h2 h3
    have q1 := X.heapSize
    have q2 := X.used
    simp only [hF, hU, List.length_cons, State.stackLimits_setFrames, State.stackBytes_setFrames, hl9, hb9]
    refine ⟨⟨⟨⟨by omega, by omega, by omega, by omega, by omega, h6⟩, ?_⟩, ?_⟩, X.book⟩
    · show T.heap.size + R'.cells ≤ e.platform.maxCells
      omega
    · show T.slotsUsed + R'.slots ≤ e.platform.maxSlots
      omega
  · rw [State.stackLimits_setFrames]; rfl
  · rw [State.stackBytes_setFrames]; rfl
  · refine ⟨?_, Nat.le_refl _, Nat.le_refl _, ?_, ?_, fun a c9 h9 => ⟨c9, h9, rfl, rfl, fun _ _ => rfl⟩⟩
    · obtain ⟨t, ht, -⟩ := State.frames_cons hr
      show T.setVm s.vm = { ((T.setVm s.vm).setFrames (.invoking m args :: below)).setFrames (T.setVm s.vm).frames with heap := T.heap, slotsUsed := T.slotsUsed }
      rw [State.setFrames_setFrames, State.setFrames_self ht]
      rfl
    · show T.slotsUsed = T.slotsUsed + ((T.heap.toList.drop T.heap.size).map (·.slots.size)).sum
      rw [List.drop_eq_nil_of_le (Nat.le_of_eq Array.length_toList)]
      rfl
    · show ((T.heap.toList.drop T.heap.size).map (·.slots.size)).sum ≤ 0
      rw [List.drop_eq_nil_of_le (Nat.le_of_eq Array.length_toList)]
      exact Nat.le_refl _
/-- 'throw new E()': new; dup; invokespecial; athrow -/
theorem vx_throw0 {cc : ByteArray} {pc : Nat} (hexec : p.tables.exec = Jvm.exec) (hb : c.code = cc) (hl : l.stackTraces = false) {own cls : String} {names : List String} {ik ic mc ms : Nat} {A : Nat → Prop}
    (hown : s.vm.findClass own = some m.cls) (hcls : Bundle.fit cls = true) (hnames : ∀ n ∈ names, Bundle.fit n = true)
    (hk : (Cond.classLink own ik cls).before args s = true) (hini : (Cond.initialized cls).before args s = true) (hat : ∀ w ∈ vx_at0 own ic cls names, w.before args s = true)
    (hgood : ∀ w ∈ Cond.classLink own ik cls :: Cond.initialized cls :: vx_at0 own ic cls names, vx_ot w = true)
    (hU : vx_Zq Bundle.tN "UNASSIGNED_STACK" Bundle.steD A s s.heap) (hN : vx_Zq Bundle.tN "SUPPRESSED_SENTINEL" Bundle.listD A s s.heap) (hS : va_S A s.heap H locs) (hsize : ls.size = c.maxLocals)
    (d0 : decode cc pc = .ok (.new ik, 3)) (d3 : decode cc (pc + 3) = .ok (.dup, 1)) (d4 : decode cc (pc + 4) = .ok (.invokespecial ic, 3)) (d7 : decode cc (pc + 7) = .ok (.athrow, 1))
    (hout : ∀ x ∈ c.exceptionTable.toList, covers x (pc + 7) = false)
    (hRframes : names.length + 3 < R.frames) (hRlocals : (rest.map fun v => v.category).sum + (13 * (names.length + 1) + 42) ≤ R.locals) (hRcells : cells + 1 ≤ R.cells) (hRslots : slots + 6 ≤ R.slots) (hlocks : meth.locks = false)
    (hx : ∀ t : State, s.vm.Alike t.vm → H.size ≤ t.heap.size → (∀ q : Nat, q < H.size → t.heap[q]? = H[q]?) → XC cls s t)
    (hf : ∀ z ∈ locs, free z.base) (hc : cells + 1 ≤ mc) (hs : slots + 6 ≤ ms) :
    W p l e R s m args below meth c H locs cells slots (vx_MQ below Qc XC args s mc ms free) (F0 m pc ls rest) := by
  intro T hT X
  have htr : e.platform.stackTraces = false := (show e.platform.stackTraces = l.stackTraces by rw [X.admits.platform]).trans hl
  have Y := vx_rebase X (R' := { frames := R.frames, locals := R.locals, cells := 1, slots := 6 }) (Nat.le_refl _) (Nat.le_refl _) hRcells hRslots
  obtain ⟨s', hA⟩ : ∃ z, z = (T.setVm s.vm).setFrames (.invoking m args :: below) := ⟨_, rfl⟩
  rw [← hA] at Y
  have hvm : s'.vm = s.vm := by rw [hA]; rfl
  have hhp : s'.heap = H := by rw [hA]; exact hT
  have hW0 : s.WarmedH s'.vm := by rw [hvm]; exact State.WarmedH.refl s
  have hat' : ∀ w ∈ vx_at0 own ic cls names, w.before args s' = true := fun w hw => vx_ot_at hW0 hvm.symm (hgood w (List.mem_cons_of_mem _ (List.mem_cons_of_mem _ hw))) (hat w hw)
  have hk' : (Cond.classLink own ik cls).before args s' = true := vx_ot_at hW0 hvm.symm (hgood _ List.mem_cons_self) hk
  have hini' : (Cond.initialized cls).before args s' = true := vx_ot_at hW0 hvm.symm (hgood _ (List.mem_cons_of_mem _ List.mem_cons_self)) hini
  have hU' : vx_Zq Bundle.tN "UNASSIGNED_STACK" Bundle.steD A s' s'.heap := by rw [hhp]; exact vx_Zq.moved hW0.alike (hU.kept hS.2.1)
  have hN' : vx_Zq Bundle.tN "SUPPRESSED_SENTINEL" Bundle.listD A s' s'.heap := by rw [hhp]; exact vx_Zq.moved hW0.alike (hN.kept hS.2.1)
  have h : ∀ w ∈ Bundle.ownAtoms0 own ic cls names, w.before args s' = true := vx_own hat' (vx_isRefq hU'.1) (vx_isRefq hN'.1) hU'.2.word hN'.2.word
  have hown' : s'.vm.findClass own = some m.cls := by rw [hvm]; exact hown
  have hins : (Cond.instantiable cls 6).before args s' = true := h _ (by simp [Bundle.ownAtoms0])
  obtain ⟨vm₁, cX, kX, hfX, hkX, -, -, X₁, st1⟩ := Y.newCold hexec (own := own) (C := cls) (index := ik) (n := 6) hown' hk' hins hini'
    (g := F0 m pc ls rest) rfl (by rw [hb]; exact d0) (Nat.le_refl _) (Nat.le_refl _)
  generalize hT1 : (T.setVm vm₁).pushCell { cls := cX, slots := kX.instanceTypes.map defaultValue, vm := .none } = T1 at X₁ st1
  have hcat : (Value.ref T.heap.size).category = 1 := rfl
  have hcellA : T1.heap[T.heap.size]? = some (freshCell cX kX) := by rw [← hT1]; exact State.heap_pushCell_size _ _
  have d3' : decode c.code (pc + 3) = .ok (.dup, 1) := by rw [hb]; exact d3
  obtain ⟨U, hsteps, hrun, hend, hW, hsame, ce, hce, hO⟩ := X₁.ctorThrow0 hexec htr (own := own) (cls := cls) (names := names) (ic := ic) hown' hcls hnames h (fun x hx => nomatch hx) hfX hkX hcellA (by rw [hhp, hT]; exact Nat.le_refl _)
    (g := { method := m, pc := pc + 4, locals := ls, stack := .ref T.heap.size :: .ref T.heap.size :: rest, locked := none }) rfl hsize rfl rfl (rest := rest) rfl
    (by rw [hb]; exact d4) (by rw [hb]; exact d7) hout hRframes (by simp only [List.map_cons, List.sum_cons, hcat]; omega) hlocks
  obtain ⟨f1, f2⟩ := vx_frame hsame
  rw [hhp] at f1 f2
  have hWs : s.WarmedH U.vm := State.WarmedH.trans hW0 hW
  have hcl : s.vm.findClass cls = some ce.cls := by
    have h9 := hO.cls
    rw [hvm] at h9
    exact h9
  have hall : s.sameButNew ({ U with vm := s.vm } : State) locs mc ms := by
    subst hA
    obtain ⟨e1, e2⟩ := hsame
    rw [State.setFrames_setFrames] at e1
    have h2 : (T.setVm s.vm).sameButNew ({ U with vm := s.vm } : State) [] (0 + 1) (0 + 6) := ⟨e1, e2⟩
    have h3 := X.same.trans h2
    rw [List.append_nil] at h3
    exact h3.mono hc hs
  refine ⟨U, ?_, .threw T.heap.size, hrun, hend, Or.inr ⟨T.heap.size, rfl, cls, ce, locs, hx U hWs.alike f1 (fun q hq => f2 q hq (fun z hz => nomatch hz)), hce, hO.vm, hcl, hWs, hall, hf⟩⟩
  refine st1 _ ?_
  show Steps p.tables e below (T1.setTop { method := m, pc := pc + 3, locals := ls, stack := .ref T.heap.size :: rest, locked := none }) _
  jvm_step X₁.here [X₁.here.top, hexec, d3', Value.category]
  exact hsteps
/-- 'throw new E("text")': new; dup; ldc; invokespecial; athrow -/
theorem vx_throwS {cc : ByteArray} {pc : Nat} (hexec : p.tables.exec = Jvm.exec) (hb : c.code = cc) (hl : l.stackTraces = false) {own cls text : String} {names : List String} {ik is ic mc ms sa : Nat} {A : Nat → Prop}
    (hown : s.vm.findClass own = some m.cls) (hcls : Bundle.fit cls = true) (hnames : ∀ n ∈ names, Bundle.fit n = true)
    (hk : (Cond.classLink own ik cls).before args s = true) (hini : (Cond.initialized cls).before args s = true) (hstr : vk_R own is text sa s) (hat : ∀ w ∈ vx_atS own ic cls names, w.before args s = true)
    (hgood : ∀ w ∈ Cond.classLink own ik cls :: Cond.initialized cls :: vx_atS own ic cls names, vx_ot w = true)
    (hU : vx_Zq Bundle.tN "UNASSIGNED_STACK" Bundle.steD A s s.heap) (hN : vx_Zq Bundle.tN "SUPPRESSED_SENTINEL" Bundle.listD A s s.heap) (hS : va_S A s.heap H locs) (hsize : ls.size = c.maxLocals)
    (d0 : decode cc pc = .ok (.new ik, 3)) (d3 : decode cc (pc + 3) = .ok (.dup, 1)) (d4 : decode cc (pc + 4) = .ok (.ldc is, 2)) (d6 : decode cc (pc + 6) = .ok (.invokespecial ic, 3)) (d9 : decode cc (pc + 9) = .ok (.athrow, 1))
    (hout : ∀ x ∈ c.exceptionTable.toList, covers x (pc + 9) = false)
    (hRframes : names.length + 3 < R.frames) (hRlocals : (rest.map fun v => v.category).sum + (13 * (names.length + 1) + 43) ≤ R.locals) (hRcells : cells + 1 ≤ R.cells) (hRslots : slots + 6 ≤ R.slots) (hlocks : meth.locks = false)
    (hx : ∀ t : State, s.vm.Alike t.vm → H.size ≤ t.heap.size → (∀ q : Nat, q < H.size → t.heap[q]? = H[q]?) → XC cls s t)
    (hf : ∀ z ∈ locs, free z.base) (hc : cells + 1 ≤ mc) (hs : slots + 6 ≤ ms) :
    W p l e R s m args below meth c H locs cells slots (vx_MQ below Qc XC args s mc ms free) (F0 m pc ls rest) := by
  intro T hT X
  have htr : e.platform.stackTraces = false := (show e.platform.stackTraces = l.stackTraces by rw [X.admits.platform]).trans hl
  have Y := vx_rebase X (R' := { frames := R.frames, locals := R.locals, cells := 1, slots := 6 }) (Nat.le_refl _) (Nat.le_refl _) hRcells hRslots
  obtain ⟨s', hA⟩ : ∃ z, z = (T.setVm s.vm).setFrames (.invoking m args :: below) := ⟨_, rfl⟩
  rw [← hA] at Y
  have hvm : s'.vm = s.vm := by rw [hA]; rfl
  have hhp : s'.heap = H := by rw [hA]; exact hT
  have hW0 : s.WarmedH s'.vm := by rw [hvm]; exact State.WarmedH.refl s
  have hat' : ∀ w ∈ vx_atS own ic cls names, w.before args s' = true := fun w hw => vx_ot_at hW0 hvm.symm (hgood w (List.mem_cons_of_mem _ (List.mem_cons_of_mem _ hw))) (hat w hw)
  have hk' : (Cond.classLink own ik cls).before args s' = true := vx_ot_at hW0 hvm.symm (hgood _ List.mem_cons_self) hk
  have hini' : (Cond.initialized cls).before args s' = true := vx_ot_at hW0 hvm.symm (hgood _ (List.mem_cons_of_mem _ List.mem_cons_self)) hini
  have hU' : vx_Zq Bundle.tN "UNASSIGNED_STACK" Bundle.steD A s' s'.heap := by rw [hhp]; exact vx_Zq.moved hW0.alike (hU.kept hS.2.1)
  have hN' : vx_Zq Bundle.tN "SUPPRESSED_SENTINEL" Bundle.listD A s' s'.heap := by rw [hhp]; exact vx_Zq.moved hW0.alike (hN.kept hS.2.1)
  have h : ∀ w ∈ Bundle.ownAtoms own ic cls names, w.before args s' = true := vx_own hat' (vx_isRefq hU'.1) (vx_isRefq hN'.1) hU'.2.word hN'.2.word
  have hown' : s'.vm.findClass own = some m.cls := by rw [hvm]; exact hown
  have hins : (Cond.instantiable cls 6).before args s' = true := h _ (by simp [Bundle.ownAtoms])
  obtain ⟨vm₁, cX, kX, hfX, hkX, -, -, X₁, st1⟩ := Y.newCold hexec (own := own) (C := cls) (index := ik) (n := 6) hown' hk' hins hini'
    (g := F0 m pc ls rest) rfl (by rw [hb]; exact d0) (Nat.le_refl _) (Nat.le_refl _)
  generalize hT1 : (T.setVm vm₁).pushCell { cls := cX, slots := kX.instanceTypes.map defaultValue, vm := .none } = T1 at X₁ st1
  have hcat : (Value.ref T.heap.size).category = 1 := rfl
  have hcellA : T1.heap[T.heap.size]? = some (freshCell cX kX) := by rw [← hT1]; exact State.heap_pushCell_size _ _
  have d3' : decode c.code (pc + 3) = .ok (.dup, 1) := by rw [hb]; exact d3
  have d4' : decode c.code (pc + 4) = .ok (.ldc is, 2) := by rw [hb]; exact d4
  have hstr' : vk_R own is text sa s' := vk_R.warm hW0 hstr
  obtain ⟨U, hsteps, hrun, hend, hW, hsame, ce, hce, hO⟩ := X₁.ctorThrowS hexec htr (own := own) (cls := cls) (names := names) (ic := ic) hown' hcls hnames h (fun x hx => nomatch hx) hfX hkX hcellA (by rw [hhp, hT]; exact Nat.le_refl _) (msg := .ref sa) rfl
    (g := { method := m, pc := pc + 6, locals := ls, stack := .ref sa :: .ref T.heap.size :: .ref T.heap.size :: rest, locked := none }) rfl hsize rfl rfl (rest := rest) rfl
    (by rw [hb]; exact d6) (by rw [hb]; exact d9) hout hRframes (by simp only [List.map_cons, List.sum_cons, hcat]; omega) hlocks
  obtain ⟨f1, f2⟩ := vx_frame hsame
  rw [hhp] at f1 f2
  have hWs : s.WarmedH U.vm := State.WarmedH.trans hW0 hW
  have hcl : s.vm.findClass cls = some ce.cls := by
    have h9 := hO.cls
    rw [hvm] at h9
    exact h9
  have hall : s.sameButNew ({ U with vm := s.vm } : State) locs mc ms := by
    subst hA
    obtain ⟨e1, e2⟩ := hsame
    rw [State.setFrames_setFrames] at e1
    have h2 : (T.setVm s.vm).sameButNew ({ U with vm := s.vm } : State) [] (0 + 1) (0 + 6) := ⟨e1, e2⟩
    have h3 := X.same.trans h2
    rw [List.append_nil] at h3
    exact h3.mono hc hs
  refine ⟨U, ?_, .threw T.heap.size, hrun, hend, Or.inr ⟨T.heap.size, rfl, cls, ce, locs, hx U hWs.alike f1 (fun q hq => f2 q hq (fun z hz => nomatch hz)), hce, hO.vm, hcl, hWs, hall, hf⟩⟩
  refine st1 _ ?_
  show Steps p.tables e below (T1.setTop { method := m, pc := pc + 3, locals := ls, stack := .ref T.heap.size :: rest, locked := none }) _
  jvm_step X₁.here [X₁.here.top, hexec, d3', Value.category]
  exact X₁.ldcString hexec (own := own) (text := text) (index := is) (a := sa) hown' hstr'.1 hstr'.2
    (g := { method := m, pc := pc + 4, locals := ls, stack := .ref T.heap.size :: .ref T.heap.size :: rest, locked := none }) rfl d4' _ hsteps
/-- 'throw new E("text")', the text by a wide index -/
theorem vx_throwSW {cc : ByteArray} {pc : Nat} (hexec : p.tables.exec = Jvm.exec) (hb : c.code = cc) (hl : l.stackTraces = false) {own cls text : String} {names : List String} {ik is ic mc ms sa : Nat} {A : Nat → Prop}
    (hown : s.vm.findClass own = some m.cls) (hcls : Bundle.fit cls = true) (hnames : ∀ n ∈ names, Bundle.fit n = true)
    (hk : (Cond.classLink own ik cls).before args s = true) (hini : (Cond.initialized cls).before args s = true) (hstr : vk_R own is text sa s) (hat : ∀ w ∈ vx_atS own ic cls names, w.before args s = true)
    (hgood : ∀ w ∈ Cond.classLink own ik cls :: Cond.initialized cls :: vx_atS own ic cls names, vx_ot w = true)
    (hU : vx_Zq Bundle.tN "UNASSIGNED_STACK" Bundle.steD A s s.heap) (hN : vx_Zq Bundle.tN "SUPPRESSED_SENTINEL" Bundle.listD A s s.heap) (hS : va_S A s.heap H locs) (hsize : ls.size = c.maxLocals)
    (d0 : decode cc pc = .ok (.new ik, 3)) (d3 : decode cc (pc + 3) = .ok (.dup, 1)) (d4 : decode cc (pc + 4) = .ok (.ldc_w is, 3)) (d7 : decode cc (pc + 7) = .ok (.invokespecial ic, 3)) (d10 : decode cc (pc + 10) = .ok (.athrow, 1))
    (hout : ∀ x ∈ c.exceptionTable.toList, covers x (pc + 10) = false)
    (hRframes : names.length + 3 < R.frames) (hRlocals : (rest.map fun v => v.category).sum + (13 * (names.length + 1) + 43) ≤ R.locals) (hRcells : cells + 1 ≤ R.cells) (hRslots : slots + 6 ≤ R.slots) (hlocks : meth.locks = false)
    (hx : ∀ t : State, s.vm.Alike t.vm → H.size ≤ t.heap.size → (∀ q : Nat, q < H.size → t.heap[q]? = H[q]?) → XC cls s t)
    (hf : ∀ z ∈ locs, free z.base) (hc : cells + 1 ≤ mc) (hs : slots + 6 ≤ ms) :
    W p l e R s m args below meth c H locs cells slots (vx_MQ below Qc XC args s mc ms free) (F0 m pc ls rest) := by
  intro T hT X
  have htr : e.platform.stackTraces = false := (show e.platform.stackTraces = l.stackTraces by rw [X.admits.platform]).trans hl
  have Y := vx_rebase X (R' := { frames := R.frames, locals := R.locals, cells := 1, slots := 6 }) (Nat.le_refl _) (Nat.le_refl _) hRcells hRslots
  obtain ⟨s', hA⟩ : ∃ z, z = (T.setVm s.vm).setFrames (.invoking m args :: below) := ⟨_, rfl⟩
  rw [← hA] at Y
  have hvm : s'.vm = s.vm := by rw [hA]; rfl
  have hhp : s'.heap = H := by rw [hA]; exact hT
  have hW0 : s.WarmedH s'.vm := by rw [hvm]; exact State.WarmedH.refl s
  have hat' : ∀ w ∈ vx_atS own ic cls names, w.before args s' = true := fun w hw => vx_ot_at hW0 hvm.symm (hgood w (List.mem_cons_of_mem _ (List.mem_cons_of_mem _ hw))) (hat w hw)
  have hk' : (Cond.classLink own ik cls).before args s' = true := vx_ot_at hW0 hvm.symm (hgood _ List.mem_cons_self) hk
  have hini' : (Cond.initialized cls).before args s' = true := vx_ot_at hW0 hvm.symm (hgood _ (List.mem_cons_of_mem _ List.mem_cons_self)) hini
  have hU' : vx_Zq Bundle.tN "UNASSIGNED_STACK" Bundle.steD A s' s'.heap := by rw [hhp]; exact vx_Zq.moved hW0.alike (hU.kept hS.2.1)
  have hN' : vx_Zq Bundle.tN "SUPPRESSED_SENTINEL" Bundle.listD A s' s'.heap := by rw [hhp]; exact vx_Zq.moved hW0.alike (hN.kept hS.2.1)
  have h : ∀ w ∈ Bundle.ownAtoms own ic cls names, w.before args s' = true := vx_own hat' (vx_isRefq hU'.1) (vx_isRefq hN'.1) hU'.2.word hN'.2.word
  have hown' : s'.vm.findClass own = some m.cls := by rw [hvm]; exact hown
  have hins : (Cond.instantiable cls 6).before args s' = true := h _ (by simp [Bundle.ownAtoms])
  obtain ⟨vm₁, cX, kX, hfX, hkX, -, -, X₁, st1⟩ := Y.newCold hexec (own := own) (C := cls) (index := ik) (n := 6) hown' hk' hins hini'
    (g := F0 m pc ls rest) rfl (by rw [hb]; exact d0) (Nat.le_refl _) (Nat.le_refl _)
  generalize hT1 : (T.setVm vm₁).pushCell { cls := cX, slots := kX.instanceTypes.map defaultValue, vm := .none } = T1 at X₁ st1
  have hcat : (Value.ref T.heap.size).category = 1 := rfl
  have hcellA : T1.heap[T.heap.size]? = some (freshCell cX kX) := by rw [← hT1]; exact State.heap_pushCell_size _ _
  have d3' : decode c.code (pc + 3) = .ok (.dup, 1) := by rw [hb]; exact d3
  have d4' : decode c.code (pc + 4) = .ok (.ldc_w is, 3) := by rw [hb]; exact d4
  have hstr' : vk_R own is text sa s' := vk_R.warm hW0 hstr
  obtain ⟨U, hsteps, hrun, hend, hW, hsame, ce, hce, hO⟩ := X₁.ctorThrowS hexec htr (own := own) (cls := cls) (names := names) (ic := ic) hown' hcls hnames h (fun x hx => nomatch hx) hfX hkX hcellA (by rw [hhp, hT]; exact Nat.le_refl _) (msg := .ref sa) rfl
    (g := { method := m, pc := pc + 7, locals := ls, stack := .ref sa :: .ref T.heap.size :: .ref T.heap.size :: rest, locked := none }) rfl hsize rfl rfl (rest := rest) rfl
    (by rw [hb]; exact d7) (by rw [hb]; exact d10) hout hRframes (by simp only [List.map_cons, List.sum_cons, hcat]; omega) hlocks
  obtain ⟨f1, f2⟩ := vx_frame hsame
  rw [hhp] at f1 f2
  have hWs : s.WarmedH U.vm := State.WarmedH.trans hW0 hW
  have hcl : s.vm.findClass cls = some ce.cls := by
    have h9 := hO.cls
    rw [hvm] at h9
    exact h9
  have hall : s.sameButNew ({ U with vm := s.vm } : State) locs mc ms := by
    subst hA
    obtain ⟨e1, e2⟩ := hsame
    rw [State.setFrames_setFrames] at e1
    have h2 : (T.setVm s.vm).sameButNew ({ U with vm := s.vm } : State) [] (0 + 1) (0 + 6) := ⟨e1, e2⟩
    have h3 := X.same.trans h2
    rw [List.append_nil] at h3
    exact h3.mono hc hs
  refine ⟨U, ?_, .threw T.heap.size, hrun, hend, Or.inr ⟨T.heap.size, rfl, cls, ce, locs, hx U hWs.alike f1 (fun q hq => f2 q hq (fun z hz => nomatch hz)), hce, hO.vm, hcl, hWs, hall, hf⟩⟩
  refine st1 _ ?_
  show Steps p.tables e below (T1.setTop { method := m, pc := pc + 3, locals := ls, stack := .ref T.heap.size :: rest, locked := none }) _
  jvm_step X₁.here [X₁.here.top, hexec, d3', Value.category]
  exact X₁.ldcStringW hexec (own := own) (text := text) (index := is) (a := sa) hown' hstr'.1 hstr'.2
    (g := { method := m, pc := pc + 4, locals := ls, stack := .ref T.heap.size :: .ref T.heap.size :: rest, locked := none }) rfl d4' _ hsteps
end Ends
section Bodies
variable {l : Launch}
theorem vx_ofW {y : MethodName} {ws ws' : List Cond} {rm : Room} {Pc : Array Value → State → Prop} {Qc : Array Value → State → Outcome → State → Prop} {XC : String → State → State → Prop} {mc ms : Nat} {free : Addr → Prop} {cc : ByteArray} {maxL : Nat} {ret : Option FieldType}
    (hy : plainName y.cls = true) (hw : ws = Cond.code y cc maxL ret :: ws')
    (body : ∀ p e s m args below meth c s₁, BodyLoose p l y (headSpec ws rm) cc maxL ret e s m args below meth c s₁ → c.maxLocals = maxL → (∀ x ∈ c.exceptionTable.toList, False) → Pc args s →
      W p l e (headSpec ws rm).room s m args below meth c s.heap [] 0 0 (vx_MQ below Qc XC args s mc ms free) (entryFrame m args maxL)) : vx_Met l y ws rm Pc Qc XC mc ms free := by
  refine MetFree.of_bodyS (code := cc) (maxLocals := maxL) (ret := ret) hy ?_ ?_
  · intro args s m h hn
    obtain ⟨meth, c, h1, h2, h3, h4, h5, h6, -, -⟩ := Cond.code_spec hn (atoms_spec (ws := ws) h _ (by rw [hw]; exact List.mem_cons_self))
    exact ⟨meth, c, h1, h2, h3, h4, h5, h6⟩
  · intro p e s m args below meth c s₁ B hml hP _
    have hh0 : s₁.heap = s.heap := by rw [B.state]; rfl
    have ht : ∀ x ∈ c.exceptionTable.toList, False := by
      obtain ⟨meth9, c9, h1, h2, -, -, -, -, h7, -⟩ := Cond.code_spec B.named (atoms_spec (ws := ws) B.pre _ (by rw [hw]; exact List.mem_cons_self))
      cases Option.some.inj (h1.symm.trans B.method)
      cases Option.some.inj (h2.symm.trans (Stand.of_body B).code)
      intro x hx
      rw [Array.isEmpty_iff.mp h7] at hx
      cases hx
    obtain ⟨t, a1, o, b1, b2, b3⟩ := body p e s m args below meth c s₁ B hml ht hP s₁ hh0 (Stand.of_body B)
    exact ⟨t, o, a1, b1, b2, b3⟩
/-- the table of a body with handlers -/
theorem vx_table {p : Program} {x y : MethodName} {S : Spec} {cc bytes : ByteArray} {maxL maxL' : Nat} {ret ret' : Option FieldType} {e : Env} {s s₁ : State} {m : MethodId} {args : Array Value} {below : List Frame} {meth : Method} {c : Code} {hh : List (Nat × Nat × Nat × Nat)}
    (B : BodyLoose p l y S cc maxL ret e s m args below meth c s₁) (h : (Cond.codeWith y bytes maxL' ret' hh).before args s = true) : c.exceptionTable.toList = tableOf hh := by
  obtain ⟨m9, meth9, c9, hn9, h1, h2, -, -, h6, -⟩ := Cond.codeWith_spec h
  cases Option.some.inj (hn9.symm.trans B.named)
  cases Option.some.inj (h1.symm.trans B.method)
  cases Option.some.inj (h2.symm.trans (Stand.of_body B).code)
  rw [← h6, table_eq]
end Bodies
end VXA
/-! ===== END ===== -/
/-! ===== BEGIN a static call of a method with an exception table ===== -/
section VXS
variable {p : Program} {l : Launch} {e : Env} {R : Room} {s : State} {m : MethodId} {args : Array Value} {below : List Frame} {meth : Method} {c : Code} {T : State} {H : Heap} {locs : List Loc} {cells slots : Nat}
abbrev vx_CSW (R : Room) (s : State) (args : Array Value) (own : String) (index : Nat) (y : MethodName) (bytes : ByteArray) (maxL : Nat) (ret : Option FieldType) (hh : List (Nat × Nat × Nat × Nat)) (ws : List Cond) (rm : Room) (mc ms n : Nat) : Prop :=
  (rm.cells = mc ∧ rm.slots = ms ∧ rm.frames + 1 ≤ R.frames ∧ 8 + (maxL + 11) + rm.locals ≤ R.locals ∧ (∀ w ∈ ws, ∀ (a' : Array Value) (U : State), s.WarmedH U.vm → w.before a' U = true) ∧ Cond.codeWith y bytes maxL ret hh ∈ ws) ∧
  (Cond.codeWith y bytes maxL ret hh).before args s = true ∧ (Cond.initialized y.cls).before args s = true ∧ (y.cls ≠ "java/lang/invoke/MethodHandle" ∧ y.cls ≠ "java/lang/invoke/VarHandle") ∧
  (∀ sig, parseMethodDescriptor y.desc = some sig → n = sig.parameters.length) ∧ (Cond.methodLink own index y).before args s = true ∧ (Cond.static y).before args s = true
theorem vx_cwSW {own : String} {index maxL mc ms : Nat} {y : MethodName} {bytes : ByteArray} {ret : Option FieldType} {hh : List (Nat × Nat × Nat × Nat)} {Ts ws ws' : List Cond} {rm : Room} (n : Nat) (ht : ∀ w ∈ Ts, w.before args s = true) (hT : GoodIn Ts (va_wsS own index y ws)) (hw : ws = Cond.codeWith y bytes maxL ret hh :: ws') (hrc : rm.cells = mc) (hrs : rm.slots = ms)
    (hd : y.cls ≠ "java/lang/invoke/MethodHandle" ∧ y.cls ≠ "java/lang/invoke/VarHandle" ∧ (parseMethodDescriptor y.desc).map (fun d => d.parameters.length) = some n) (hR : rm.frames + 1 ≤ R.frames ∧ 8 + (maxL + 11) + rm.locals ≤ R.locals) :
    vx_CSW R s args own index y bytes maxL ret hh ws rm mc ms n := by
  have ok : ∀ w ∈ va_wsS own index y ws, w.before args s = true := fun w h => ht w (hT w h).1
  have hG : GoodIn Ts ws := fun w h => hT w (by unfold va_wsS; exact List.mem_append_right _ h)
  have hc : Cond.codeWith y bytes maxL ret hh ∈ ws := by rw [hw]; exact List.mem_cons_self
  refine ⟨⟨hrc, hrs, hR.1, hR.2, pay_in ht hG, hc⟩, ht _ (hG _ hc).1, ok _ (by simp [va_wsS]), ⟨hd.1, hd.2.1⟩, fun sig h => ?_, ok _ (by simp [va_wsS]), ok _ (by simp [va_wsS])⟩
  have h2 := hd.2.2
  rw [h] at h2
  exact (Option.some.inj h2).symm
theorem vx_callSW (X : Stand p l e R s m args below meth c T locs cells slots) (hexec : p.tables.exec = Jvm.exec) {own : String} {index : Nat} {y : MethodName} {bytes : ByteArray} {maxL : Nat} {ret : Option FieldType} {hh : List (Nat × Nat × Nat × Nat)}
    (hown : s.vm.findClass own = some m.cls) (hlink : (Cond.methodLink own index y).before args s = true) (hstat : (Cond.static y).before args s = true) (hinit : (Cond.initialized y.cls).before args s = true)
    (hcode : (Cond.codeWith y bytes maxL ret hh).before args s = true) (hy : y.cls ≠ "java/lang/invoke/MethodHandle" ∧ y.cls ≠ "java/lang/invoke/VarHandle")
    {W9 : Nat} {Pre : Pt → Array Value → Prop} {Post : Pt → Array Value → Option Value → Pt → Prop} (hK : Back l R p e below s args y 3 W9 Pre Post)
    {g : JFrame} (hg : g.method = m) (hsize : g.locals.size = c.maxLocals) {argsL rest : List Value} (hlen : ∀ sig, parseMethodDescriptor y.desc = some sig → argsL.length = sig.parameters.length)
    (hstack : g.stack = argsL.reverse ++ rest) (hW : 2 * g.monitorRoom + (rest.map fun v => v.category).sum ≤ W9) (hdg : decode c.code g.pc = .ok (.invokestatic index, 3))
    (hpre : ∀ vm₁, s.WarmedH vm₁ → Pre ⟨T.setVm vm₁, locs, cells, slots⟩ argsL.toArray) :
    ∃ (v : Option Value) (vm₁ : Vm) (B : Pt), s.WarmedH vm₁ ∧ Stand p l e R s m args below meth c B.U B.locs B.cells B.slots ∧ Post ⟨T.setVm vm₁, locs, cells, slots⟩ argsL.toArray v B ∧
      ∀ target, Steps p.tables e below (B.U.setTop { g with pc := g.pc + 3, stack := v.toList ++ rest }) target → Steps p.tables e below (T.setTop g) target := by
  obtain ⟨mk, methM, cM, hnamed, hmethM, -, -, -, -, -, -, hsigM⟩ := Cond.codeWith_spec hcode
  have hstatic : methM.isStatic = true := Cond.static_spec hnamed hmethM hstat
  obtain ⟨kP, hkP, -⟩ := className_of_methodNamed hnamed
  have hinitP : kP.init = .initialized := Cond.initialized_spec (findClass_of_methodNamed hnamed) hkP hinit
  obtain ⟨vm₁, X₁, hstep₁⟩ := X.invokestatic hexec hown hlink hnamed hmethM hstatic hkP hinitP hy (g := g) hg (argsL := argsL) (rest := rest) (hlen _ hsigM) hstack hdg
  obtain ⟨v, B, X', hpost, hsteps⟩ := hK m meth c ⟨T.setVm vm₁, locs, cells, slots⟩ { g with stack := rest } (.invokestatic index) mk argsL.toArray X₁ hg hsize hdg hW (X₁.named hnamed) (hpre vm₁ X₁.warmed)
  exact ⟨v, vm₁, B, X₁.warmed, X', hpost, fun target h => hstep₁ _ fun acts => by rw [doInvoke_state]; exact hsteps.trans h⟩
theorem vx_runSW {y : MethodName} {bytes cc : ByteArray} {maxL nL mc ms n index : Nat} {ret : Option FieldType} {hh : List (Nat × Nat × Nat × Nat)} {ws : List Cond} {rm : Room} {Pc : Array Value → State → Prop} {Qc : Array Value → State → Outcome → State → Prop} {free : Addr → Prop} {Ts : List Cond} {own : String} {As rest : List Value} {g : JFrame}
    (S : CallFix p m c cc nL s args Ts own) (hM : Met l y ws rm Pc Qc mc ms free) (cw : vx_CSW R s args own index y bytes maxL ret hh ws rm mc ms n) (hp : PreS s H Pc As)
    (hg : g.method = m) (hn : As.length = n) (hsize : g.locals.size = nL) (hstack : g.stack = As.reverse ++ rest) (hW : 2 * g.monitorRoom + (rest.map fun v => v.category).sum ≤ 8) (hdg : decode cc g.pc = .ok (.invokestatic index, 3)) (hf : cells + mc ≤ R.cells ∧ slots + ms ≤ R.slots) :
    va_Run p l e R s m args below meth c H locs cells slots mc ms g rest (Qc As.toArray) (free) := by
  obtain ⟨⟨hrc, hrs, hfr, hlo, hws, hcw⟩, hcode, hini, hy, hlen, hl, hstt⟩ := cw
  have hK : Back l R p e below s args y 3 8 (PreOf R mc ms Pc) (PostOf Qc mc ms free) := va_backW (hh := hh) (bytes := bytes) (maxL := maxL) (ret := ret) hM hp.1 hrc hrs hfr hlo hws hcw (fun a' U hW => word_at hW (Or.inl (by first | rfl | simp [Cond.onTables, Cond.keeps, Cond.steady])) hini)
  obtain ⟨hx, hb, hml, ho, -⟩ := S
  intro T hT X
  obtain ⟨v, vm₁, ⟨U', l2, c2, s2⟩, hW₁, X', ⟨g', mk, t, L, e1, e2, hq, h1, hL, h2, h3⟩, st⟩ := vx_callSW X hx (hh := hh) (bytes := bytes) (maxL := maxL) (ret := ret) ho hl hstt hini hcode hy hK hg (hsize.trans hml.symm) (argsL := As) (rest := rest) (fun sig h => hn.trans (hlen sig h)) hstack hW (by rw [hb]; exact hdg)
    (fun vm₁ hW₁ => ⟨hf.1, hf.2, hp.2 (T.setVm vm₁) hT hW₁⟩)
  dsimp only [Pt.U, Pt.locs, Pt.cells, Pt.slots] at X' e1 e2 h1 h2 h3 st
  subst h1; subst h2; subst h3
  exact ⟨v, (T.setVm vm₁).calling g' mk As.toArray, t, U', L, hT, X', hL, e1, e2, hq, st⟩
/-- not caught here, past rows that name other classes: it goes on to the caller -/
theorem vx_outP {p : Program} {l : Launch} {e : Env} {R : Room} {s : State} {m : MethodId} {args : Array Value} {below : List Frame} {meth : Method} {c : Code} {H : Heap} {locs : List Loc} {cells slots : Nat} {free : Addr → Prop} {ls : Array Slot} {rest : List Value} {Qc : Array Value → State → Outcome → State → Prop} {XC : String → State → State → Prop}
    {pc : Nat} {own E : String} {ce : Cell} {q : Addr} {mc ms : Nat} (hown : s.vm.findClass own = some m.cls) (hlocks : meth.locks = false)
    (hpass : ∀ z ∈ c.exceptionTable.toList, covers z pc = false ∨ (z.catchType ≠ 0 ∧ ∃ nm : String, (Cond.classLink own z.catchType nm).before args s = true ∧ va_Nc E nm s)) (hcell : H[q]? = some ce) (hv : ce.vm = .none) (hcl : s.vm.findClass E = some ce.cls)
    (hx : ∀ t : State, t.heap = H → s.vm.Alike t.vm → XC E s t) (hf : ∀ z ∈ locs, free z.base) (hc : cells ≤ mc) (hs : slots ≤ ms) :
    vx_W p l e R s m args below meth c H locs cells slots (vx_MQ below Qc XC args s mc ms free) (F0 m pc ls rest) q := by
  intro T hT X
  have hpl : e.platform.magicAccessors = ({} : Platform).magicAccessors := by rw [X.admits.platform]
  obtain ⟨vm', hW', X', st⟩ := X.outThrough hlocks q (g := F0 m pc ls rest) rfl rfl rfl (cell := ce) (by rw [hT]; exact hcell) (by rw [hv]; rfl)
    (by obtain ⟨k9, h9, -⟩ := Vm.findClass_spec hcl; exact ⟨k9, h9⟩) (fun z hz => by
      rcases hpass z hz with h | ⟨hz0, nm, hl1, hn1⟩
      · exact Or.inl h
      · obtain ⟨c6, hc6, hcl6⟩ := Cond.classLink_spec hown hl1 e.platform hpl
        obtain ⟨a8, b8, h1, h2, h3⟩ := hn1
        cases Option.some.inj (h1.symm.trans hcl)
        cases Option.some.inj (h2.symm.trans hc6)
        exact Or.inr ⟨hz0, _, hcl6, h3⟩)
  obtain ⟨g₀, hfr⟩ := X'.frames_eq
  have hcell9 : ((T.setVm vm').setFrames (.throwing q :: below)).heap[q]? = some ce := by
    show T.heap[q]? = some ce
    rw [hT]; exact hcell
  have hend : Ended ((T.setVm vm').setFrames (.throwing q :: below)) below (.threw q) := State.frames_setFrames _ (State.cur_lt_of_frames hfr)
  refine ⟨(T.setVm vm').setFrames (.throwing q :: below), ?_, .threw q, X'.here.running, hend, Or.inr ⟨q, rfl, E, ce, locs, hx _ hT (X'.ends _).1.alike, hcell9, hv, hcl, (X'.ends _).1, (X'.ends _).2.mono hc hs, hf⟩⟩
  rw [X.pushThrowing_eq]
  exact st
/-- a thing of a world lies in the heap -/
theorem vx_lt {D : va_G} {cl : List vw_C} {ws : va_W} {H1 : Heap} (h : va_P D cl ws H1) {k : Nat} {q : Nat × va_E} (hk : ws[k]? = some q) : q.1 < H1.size := (h k q hk).lt
end VXS
/-! ===== END ===== -/
/-! ===== BEGIN methods with a table of their own: called by a name, returning or throwing ===== -/
section VXH
/-! vx_backW, vx_callVX, vx_callSX, vx_callVW, vx_runVW, vx_runVX, vx_runSX, vx_ofWH follow the same proofs as their sisters above (Free/Laws.lean, Shelf42/LK1.lean); vx_outP calls Shelf42/NT130.lean (outThrough). -/
section
variable {l : Launch} {R : Room} {p : Program} {e : Env} {below : List Frame} {s : State} {sargs : Array Value} {y : MethodName} {len W9 : Nat}
theorem vx_backW {ws : List Cond} {rm : Room} {Pc : Array Value → State → Prop} {Qc : Array Value → State → Outcome → State → Prop} {XC : String → State → State → Prop} {mc ms : Nat} {free : Addr → Prop} {bytes : ByteArray} {maxL : Nat} {ret : Option FieldType} {hh : List (Nat × Nat × Nat × Nat)}
    (hM : vx_Met l y ws rm Pc Qc XC mc ms free) (hblind : FrameBlind Pc) (hrc : rm.cells = mc) (hrs : rm.slots = ms)
    (hframes : rm.frames + 1 ≤ R.frames) (hlocals : W9 + (maxL + 11) + rm.locals ≤ R.locals)
    (hws : ∀ w ∈ ws, ∀ a' U, s.WarmedH U.vm → w.before a' U = true) (hcode : Cond.codeWith y bytes maxL ret hh ∈ ws) (hinit : ∀ a' U, s.WarmedH U.vm → (Cond.initialized y.cls).before a' U = true) :
    vx_Back l R p e below s sargs y len W9 (PreOf R mc ms Pc) (PostOf Qc mc ms free) (vx_Post XC mc ms free) := by
  intro m meth c A g ig mk a X hg hsize hdg hW hn hp
  have h1 : (headSpec ws rm).pre.before a A.U = true := atoms_intro fun w hw => hws w hw _ _ X.warmed
  have h2 : (Cond.codeWith y bytes maxL ret hh).before a A.U = true := hws _ hcode _ _ X.warmed
  have h3 : (Cond.initialized y.cls).before a A.U = true := hinit _ _ X.warmed
  have h4 : A.cells + (headSpec ws rm).room.cells ≤ R.cells := by rw [show (headSpec ws rm).room.cells = mc from hrc]; exact hp.1
  have h5 : A.slots + (headSpec ws rm).room.slots ≤ R.slots := by rw [show (headSpec ws rm).room.slots = ms from hrs]; exact hp.2.1
  have hPc : Pc a (A.U.calling g mk a) := hblind _ _ _ _ hp.2.2
  obtain ⟨U, Ls, c0, s0⟩ := A
  dsimp only [Pt.U, Pt.locs, Pt.cells, Pt.slots] at h1 h2 h3 h4 h5 X hn hPc ⊢
  obtain ⟨m9, methY, cY, hn9, hmY, hcY, -, hlY, -⟩ := Cond.codeWith_spec h2
  cases Option.some.inj (hn9.symm.trans hn)
  obtain ⟨kY, hkY, -⟩ := className_of_methodNamed hn
  have hinitY : kY.init = .initialized := Cond.initialized_spec (findClass_of_methodNamed hn) hkY h3
  have h : At U g.method c below := by rw [hg]; exact X.here
  have hlocals9 : W9 + (maxL + 11) + (headSpec ws rm).room.locals ≤ R.locals := hlocals
  have happ : (headSpec ws rm).appliesLoose y e.platform (U.calling g mk a) = true :=
    Spec.appliesLoose_calling (g := g) h hdg hn hkY hinitY
      (X.room_calling (g := g) (R' := (headSpec ws rm).room) hsize hmY hcY hframes (by rw [hlY]; omega) h4 h5) h1
  obtain ⟨mid, hmid⟩ := h.above
  have hfr : (U.setTop g).frames = (.java g :: mid) ++ below := by rw [State.frames_setTop' g h.top, hmid]; rfl
  obtain ⟨o, s₂, hsteps, -, hend, hq⟩ := Steps.callFree hM p X.admits X.cas X.clock (acts := []) hfr happ hPc trivial
  have hq' : vx_Q Qc XC mc ms free a (U.calling g mk a) o s₂ := hq
  rw [State.frames_setTop' g h.top] at hend
  obtain ⟨g₀, hg0⟩ := Option.isSome_iff_exists.mp h.top
  obtain ⟨r, hr⟩ := State.topJava?_eq_some.mp hg0
  have hr' : (({ U with heap := s₂.heap, slotsUsed := s₂.slotsUsed } : State).setVm s₂.vm).frames = .java g₀ :: r := hr
  rcases hq' with ⟨hqc, L, hfe, hL⟩ | ⟨q, rfl, E, ce, L, hx, hce, hcv, hcl, hW₂, hsm, hL⟩
  · obtain ⟨⟨v, rfl⟩, hW₂, e2, q2, q3, q4, q5, q6⟩ := id hfe
    have e3 : s₂ = ({ (U.calling g mk a).setFrames s₂.frames with heap := s₂.heap, slotsUsed := s₂.slotsUsed } : State).setVm s₂.vm := by
      have : s₂ = ({ s₂ with vm := (U.calling g mk a).vm } : State).setVm s₂.vm := rfl
      rw [e2] at this
      exact this
    obtain ⟨c₂, i₂, len₂, hc₂, hd₂, hf₂⟩ := hend
    have hW' : U.WarmedH s₂.vm := hW₂
    have hcc : c₂ = c := by
      have h1 : s₂.code? g.method = U.code? g.method := by
        rw [State.code?_eq, State.code?_eq, hW'.alike.method?]
      exact Option.some.inj (hc₂.symm.trans (h1.trans h.code))
    subst hcc
    have hlen : len₂ = len := by rw [hdg] at hd₂; cases hd₂; rfl
    subst hlen
    have hs₂ : s₂ = (({ U with heap := s₂.heap, slotsUsed := s₂.slotsUsed } : State).setVm s₂.vm).setTop { g with pc := g.pc + len₂, stack := v.toList ++ g.stack } := by
      refine e3.trans ?_
      rw [hf₂, State.calling_eq h.top, State.setFrames_setFrames, State.setTop_of_frames _ hr', hr]
      rfl
    have hsame : U.sameButNew ({ U with heap := s₂.heap, slotsUsed := s₂.slotsUsed } : State) L mc ms := by
      refine ⟨?_, q2, q3, q4, q5, q6⟩
      obtain ⟨t, ht, -⟩ := State.frames_cons hr
      show ({ U with heap := s₂.heap, slotsUsed := s₂.slotsUsed } : State) = { U.setFrames U.frames with heap := s₂.heap, slotsUsed := s₂.slotsUsed }
      rw [State.setFrames_self ht]
    subst hg
    refine Or.inl ⟨v, ⟨(({ U with heap := s₂.heap, slotsUsed := s₂.slotsUsed } : State).setVm s₂.vm), Ls ++ L, c0 + mc, s0 + ms⟩,
      ⟨X.admits, X.cas, X.clock, X.frames, X.room, X.hears, X.method, X.code, (X.here.setHeapUsed s₂.heap s₂.slotsUsed).setVm hW'.alike, X.tail, State.WarmedH.trans X.warmed hW', X.limits, X.bytes, X.same.trans (hsame.setVm s.vm)⟩,
      ⟨g, mk, s₂, L, rfl, rfl, hqc, rfl, hL, rfl, rfl⟩, ?_⟩
    show Steps p.tables e below _ ((({ U with heap := s₂.heap, slotsUsed := s₂.slotsUsed } : State).setVm s₂.vm).setTop { g with pc := g.pc + len₂, stack := v.toList ++ g.stack })
    rw [← hs₂]
    exact hsteps
  · obtain ⟨e2, q2, q3, q4, q5, q6⟩ := id hsm
    have e3 : s₂ = ({ (U.calling g mk a).setFrames s₂.frames with heap := s₂.heap, slotsUsed := s₂.slotsUsed } : State).setVm s₂.vm := by
      have : s₂ = ({ s₂ with vm := (U.calling g mk a).vm } : State).setVm s₂.vm := rfl
      rw [e2] at this
      exact this
    have hf₂ : s₂.frames = .throwing q :: .java g :: U.frames.tail := hend
    have hW' : U.WarmedH s₂.vm := hW₂
    have hs₂ : s₂ = ((({ U with heap := s₂.heap, slotsUsed := s₂.slotsUsed } : State).setVm s₂.vm).setTop g).pushFrame (.throwing q) := by
      refine e3.trans ?_
      rw [hf₂, State.calling_eq h.top, State.setFrames_setFrames, State.pushFrame, State.frames_setTop _ hr', State.setTop_of_frames _ hr', State.setFrames_setFrames, hr]
      rfl
    have hsame : U.sameButNew ({ U with heap := s₂.heap, slotsUsed := s₂.slotsUsed } : State) L mc ms := by
      refine ⟨?_, q2, q3, q4, q5, q6⟩
      obtain ⟨t, ht, -⟩ := State.frames_cons hr
      show ({ U with heap := s₂.heap, slotsUsed := s₂.slotsUsed } : State) = { U.setFrames U.frames with heap := s₂.heap, slotsUsed := s₂.slotsUsed }
      rw [State.setFrames_self ht]
    subst hg
    refine Or.inr ⟨q, ⟨(({ U with heap := s₂.heap, slotsUsed := s₂.slotsUsed } : State).setVm s₂.vm), Ls ++ L, c0 + mc, s0 + ms⟩,
      ⟨X.admits, X.cas, X.clock, X.frames, X.room, X.hears, X.method, X.code, (X.here.setHeapUsed s₂.heap s₂.slotsUsed).setVm hW'.alike, X.tail, State.WarmedH.trans X.warmed hW', X.limits, X.bytes, X.same.trans (hsame.setVm s.vm)⟩,
      ⟨g, mk, s₂, L, E, ce, rfl, rfl, hx, hce, hcv, hcl, rfl, hL, rfl, rfl⟩, ?_⟩
    show Steps p.tables e below _ (((({ U with heap := s₂.heap, slotsUsed := s₂.slotsUsed } : State).setVm s₂.vm).setTop g).pushFrame (.throwing q))
    rw [← hs₂]
    exact hsteps
end
variable {p : Program} {l : Launch} {e : Env} {R : Room} {s : State} {m : MethodId} {args : Array Value} {below : List Frame} {meth : Method} {c : Code} {T : State} {H : Heap} {locs : List Loc} {cells slots : Nat}
theorem vx_callVX (X : Stand p l e R s m args below meth c T locs cells slots) (hexec : p.tables.exec = Jvm.exec) {own C : String} {index : Nat} {y : MethodName} {bytes : ByteArray} {maxL : Nat} {ret : Option FieldType} {hh : List (Nat × Nat × Nat × Nat)}
    (hown : s.vm.findClass own = some m.cls) (hlink : (Cond.methodLink own index y).before args s = true) (hinst : (Cond.instanceMethod y).before args s = true) (hsel : (Cond.selects C y y).before args s = true)
    (hcode : (Cond.codeWith y bytes maxL ret hh).before args s = true) (hy : y.cls ≠ "java/lang/invoke/MethodHandle" ∧ y.cls ≠ "java/lang/invoke/VarHandle")
    {W9 : Nat} {Pre : Pt → Array Value → Prop} {Post : Pt → Array Value → Option Value → Pt → Prop} {PostX : Pt → Array Value → Addr → Pt → Prop} (hK : vx_Back l R p e below s args y 3 W9 Pre Post PostX)
    {b : Addr} {cellB : Cell} (hcell : T.heap[b]? = some cellB) (hobj : cellB.vm.isStatics = false) (hcls : s.vm.findClass C = some cellB.cls)
    {g : JFrame} (hg : g.method = m) (hsize : g.locals.size = c.maxLocals) {argsL rest : List Value} (hlen : ∀ sig, parseMethodDescriptor y.desc = some sig → argsL.length = sig.parameters.length)
    (hstack : g.stack = argsL.reverse ++ .ref b :: rest) (hW : 2 * g.monitorRoom + (rest.map fun v => v.category).sum ≤ W9) (hdg : decode c.code g.pc = .ok (.invokevirtual index, 3))
    (hpre : ∀ vm₁, s.WarmedH vm₁ → Pre ⟨T.setVm vm₁, locs, cells, slots⟩ (Value.ref b :: argsL).toArray) :
    (∃ (v : Option Value) (vm₁ : Vm) (B : Pt), s.WarmedH vm₁ ∧ Stand p l e R s m args below meth c B.U B.locs B.cells B.slots ∧ Post ⟨T.setVm vm₁, locs, cells, slots⟩ (Value.ref b :: argsL).toArray v B ∧
      ∀ target, Steps p.tables e below (B.U.setTop { g with pc := g.pc + 3, stack := v.toList ++ rest }) target → Steps p.tables e below (T.setTop g) target) ∨
    (∃ (q : Addr) (vm₁ : Vm) (B : Pt), s.WarmedH vm₁ ∧ Stand p l e R s m args below meth c B.U B.locs B.cells B.slots ∧ PostX ⟨T.setVm vm₁, locs, cells, slots⟩ (Value.ref b :: argsL).toArray q B ∧
      Steps p.tables e below (T.setTop g) ((B.U.setTop { g with stack := rest }).pushFrame (.throwing q))) := by
  obtain ⟨mk, methM, hnamed, hmethM, hstM, habM⟩ := Cond.instanceMethod_spec hinst
  obtain ⟨m8, methM', cM, hn8, hmethM', -, -, -, -, -, -, hsigM⟩ := Cond.codeWith_spec hcode
  cases Option.some.inj (hn8.symm.trans hnamed)
  cases hmethM.symm.trans hmethM'
  obtain ⟨c2, r2, m2, q1, q2, q3, q4, kP, hkP, hkPi⟩ := Cond.selects_spec hsel
  cases hcls.symm.trans q1
  cases (State.methodFound?_of_named hnamed hy).symm.trans q2
  cases hnamed.symm.trans q3
  have hselP : selectMethod e.platform s.vm cellB.cls mk = .method mk := by rw [Launch.admits_selectMethod X.admits]; exact q4
  obtain ⟨vm₁, X₁, hstep₁⟩ := X.invokevirtual hexec hown hlink hnamed hmethM hstM hkP hkPi hy (a := b) (cell := cellB) hcell
    (fun z h => by rw [h] at hobj; cases hobj) hselP hmethM habM hkP hkPi (g := g) hg (argsL := argsL) (rest := rest) (hlen _ hsigM) hstack hdg
  rcases hK m meth c ⟨T.setVm vm₁, locs, cells, slots⟩ { g with stack := rest } (.invokevirtual index) mk (Value.ref b :: argsL).toArray X₁ hg hsize hdg hW (X₁.named hnamed) (hpre vm₁ X₁.warmed) with ⟨v, B, X', hpost, hsteps⟩ | ⟨q, B, X', hpost, hsteps⟩
  · exact Or.inl ⟨v, vm₁, B, X₁.warmed, X', hpost, fun target h => hstep₁ _ fun acts => by rw [doInvoke_state]; exact hsteps.trans h⟩
  · exact Or.inr ⟨q, vm₁, B, X₁.warmed, X', hpost, hstep₁ _ fun acts => by rw [doInvoke_state]; exact hsteps⟩
theorem vx_callSX (X : Stand p l e R s m args below meth c T locs cells slots) (hexec : p.tables.exec = Jvm.exec) {own : String} {index : Nat} {y : MethodName} {bytes : ByteArray} {maxL : Nat} {ret : Option FieldType} {hh : List (Nat × Nat × Nat × Nat)}
    (hown : s.vm.findClass own = some m.cls) (hlink : (Cond.methodLink own index y).before args s = true) (hstat : (Cond.static y).before args s = true) (hinit : (Cond.initialized y.cls).before args s = true)
    (hcode : (Cond.codeWith y bytes maxL ret hh).before args s = true) (hy : y.cls ≠ "java/lang/invoke/MethodHandle" ∧ y.cls ≠ "java/lang/invoke/VarHandle")
    {W9 : Nat} {Pre : Pt → Array Value → Prop} {Post : Pt → Array Value → Option Value → Pt → Prop} {PostX : Pt → Array Value → Addr → Pt → Prop} (hK : vx_Back l R p e below s args y 3 W9 Pre Post PostX)
    {g : JFrame} (hg : g.method = m) (hsize : g.locals.size = c.maxLocals) {argsL rest : List Value} (hlen : ∀ sig, parseMethodDescriptor y.desc = some sig → argsL.length = sig.parameters.length)
    (hstack : g.stack = argsL.reverse ++ rest) (hW : 2 * g.monitorRoom + (rest.map fun v => v.category).sum ≤ W9) (hdg : decode c.code g.pc = .ok (.invokestatic index, 3))
    (hpre : ∀ vm₁, s.WarmedH vm₁ → Pre ⟨T.setVm vm₁, locs, cells, slots⟩ argsL.toArray) :
    (∃ (v : Option Value) (vm₁ : Vm) (B : Pt), s.WarmedH vm₁ ∧ Stand p l e R s m args below meth c B.U B.locs B.cells B.slots ∧ Post ⟨T.setVm vm₁, locs, cells, slots⟩ argsL.toArray v B ∧
      ∀ target, Steps p.tables e below (B.U.setTop { g with pc := g.pc + 3, stack := v.toList ++ rest }) target → Steps p.tables e below (T.setTop g) target) ∨
    (∃ (q : Addr) (vm₁ : Vm) (B : Pt), s.WarmedH vm₁ ∧ Stand p l e R s m args below meth c B.U B.locs B.cells B.slots ∧ PostX ⟨T.setVm vm₁, locs, cells, slots⟩ argsL.toArray q B ∧
      Steps p.tables e below (T.setTop g) ((B.U.setTop { g with stack := rest }).pushFrame (.throwing q))) := by
  obtain ⟨mk, methM, cM, hnamed, hmethM, -, -, -, -, -, -, hsigM⟩ := Cond.codeWith_spec hcode
  have hstatic : methM.isStatic = true := Cond.static_spec hnamed hmethM hstat
  obtain ⟨kP, hkP, -⟩ := className_of_methodNamed hnamed
  have hinitP : kP.init = .initialized := Cond.initialized_spec (findClass_of_methodNamed hnamed) hkP hinit
  obtain ⟨vm₁, X₁, hstep₁⟩ := X.invokestatic hexec hown hlink hnamed hmethM hstatic hkP hinitP hy (g := g) hg (argsL := argsL) (rest := rest) (hlen _ hsigM) hstack hdg
  rcases hK m meth c ⟨T.setVm vm₁, locs, cells, slots⟩ { g with stack := rest } (.invokestatic index) mk argsL.toArray X₁ hg hsize hdg hW (X₁.named hnamed) (hpre vm₁ X₁.warmed) with ⟨v, B, X', hpost, hsteps⟩ | ⟨q, B, X', hpost, hsteps⟩
  · exact Or.inl ⟨v, vm₁, B, X₁.warmed, X', hpost, fun target h => hstep₁ _ fun acts => by rw [doInvoke_state]; exact hsteps.trans h⟩
  · exact Or.inr ⟨q, vm₁, B, X₁.warmed, X', hpost, hstep₁ _ fun acts => by rw [doInvoke_state]; exact hsteps⟩
theorem vx_callVW (X : Stand p l e R s m args below meth c T locs cells slots) (hexec : p.tables.exec = Jvm.exec) {own C : String} {index : Nat} {y : MethodName} {bytes : ByteArray} {maxL : Nat} {ret : Option FieldType} {hh : List (Nat × Nat × Nat × Nat)}
    (hown : s.vm.findClass own = some m.cls) (hlink : (Cond.methodLink own index y).before args s = true) (hinst : (Cond.instanceMethod y).before args s = true) (hsel : (Cond.selects C y y).before args s = true)
    (hcode : (Cond.codeWith y bytes maxL ret hh).before args s = true) (hy : y.cls ≠ "java/lang/invoke/MethodHandle" ∧ y.cls ≠ "java/lang/invoke/VarHandle")
    {W9 : Nat} {Pre : Pt → Array Value → Prop} {Post : Pt → Array Value → Option Value → Pt → Prop} (hK : Back l R p e below s args y 3 W9 Pre Post)
    {b : Addr} {cellB : Cell} (hcell : T.heap[b]? = some cellB) (hobj : cellB.vm.isStatics = false) (hcls : s.vm.findClass C = some cellB.cls)
    {g : JFrame} (hg : g.method = m) (hsize : g.locals.size = c.maxLocals) {argsL rest : List Value} (hlen : ∀ sig, parseMethodDescriptor y.desc = some sig → argsL.length = sig.parameters.length)
    (hstack : g.stack = argsL.reverse ++ .ref b :: rest) (hW : 2 * g.monitorRoom + (rest.map fun v => v.category).sum ≤ W9) (hdg : decode c.code g.pc = .ok (.invokevirtual index, 3))
    (hpre : ∀ vm₁, s.WarmedH vm₁ → Pre ⟨T.setVm vm₁, locs, cells, slots⟩ (Value.ref b :: argsL).toArray) :
    ∃ (v : Option Value) (vm₁ : Vm) (B : Pt), s.WarmedH vm₁ ∧ Stand p l e R s m args below meth c B.U B.locs B.cells B.slots ∧ Post ⟨T.setVm vm₁, locs, cells, slots⟩ (Value.ref b :: argsL).toArray v B ∧
      ∀ target, Steps p.tables e below (B.U.setTop { g with pc := g.pc + 3, stack := v.toList ++ rest }) target → Steps p.tables e below (T.setTop g) target := by
  obtain ⟨mk, methM, hnamed, hmethM, hstM, habM⟩ := Cond.instanceMethod_spec hinst
  obtain ⟨m8, methM', cM, hn8, hmethM', -, -, -, -, -, -, hsigM⟩ := Cond.codeWith_spec hcode
  cases Option.some.inj (hn8.symm.trans hnamed)
  cases hmethM.symm.trans hmethM'
  obtain ⟨c2, r2, m2, q1, q2, q3, q4, kP, hkP, hkPi⟩ := Cond.selects_spec hsel
  cases hcls.symm.trans q1
  cases (State.methodFound?_of_named hnamed hy).symm.trans q2
  cases hnamed.symm.trans q3
  have hselP : selectMethod e.platform s.vm cellB.cls mk = .method mk := by rw [Launch.admits_selectMethod X.admits]; exact q4
  obtain ⟨vm₁, X₁, hstep₁⟩ := X.invokevirtual hexec hown hlink hnamed hmethM hstM hkP hkPi hy (a := b) (cell := cellB) hcell
    (fun z h => by rw [h] at hobj; cases hobj) hselP hmethM habM hkP hkPi (g := g) hg (argsL := argsL) (rest := rest) (hlen _ hsigM) hstack hdg
  obtain ⟨v, B, X', hpost, hsteps⟩ := hK m meth c ⟨T.setVm vm₁, locs, cells, slots⟩ { g with stack := rest } (.invokevirtual index) mk (Value.ref b :: argsL).toArray X₁ hg hsize hdg hW (X₁.named hnamed) (hpre vm₁ X₁.warmed)
  exact ⟨v, vm₁, B, X₁.warmed, X', hpost, fun target h => hstep₁ _ fun acts => by rw [doInvoke_state]; exact hsteps.trans h⟩
abbrev vx_CVW (R : Room) (s : State) (args : Array Value) (own C : String) (index : Nat) (y : MethodName) (bytes : ByteArray) (maxL : Nat) (ret : Option FieldType) (hh : List (Nat × Nat × Nat × Nat)) (ws : List Cond) (rm : Room) (mc ms n : Nat) : Prop :=
  (rm.cells = mc ∧ rm.slots = ms ∧ rm.frames + 1 ≤ R.frames ∧ 8 + (maxL + 11) + rm.locals ≤ R.locals ∧ (∀ w ∈ ws, ∀ (a' : Array Value) (U : State), s.WarmedH U.vm → w.before a' U = true) ∧ Cond.codeWith y bytes maxL ret hh ∈ ws) ∧
  (Cond.codeWith y bytes maxL ret hh).before args s = true ∧ (Cond.initialized y.cls).before args s = true ∧ (y.cls ≠ "java/lang/invoke/MethodHandle" ∧ y.cls ≠ "java/lang/invoke/VarHandle") ∧
  (∀ sig, parseMethodDescriptor y.desc = some sig → n = sig.parameters.length) ∧ (Cond.methodLink own index y).before args s = true ∧ (Cond.instanceMethod y).before args s = true ∧ (Cond.selects C y y).before args s = true
theorem vx_cwVW {own C : String} {index maxL mc ms : Nat} {y : MethodName} {bytes : ByteArray} {ret : Option FieldType} {hh : List (Nat × Nat × Nat × Nat)} {Ts ws ws' : List Cond} {rm : Room} (n : Nat) (ht : ∀ w ∈ Ts, w.before args s = true) (hT : GoodIn Ts (wsV own index C y ws)) (hw : ws = Cond.codeWith y bytes maxL ret hh :: ws') (hrc : rm.cells = mc) (hrs : rm.slots = ms)
    (hd : y.cls = C ∧ y.cls ≠ "java/lang/invoke/MethodHandle" ∧ y.cls ≠ "java/lang/invoke/VarHandle" ∧ (parseMethodDescriptor y.desc).map (fun d => d.parameters.length) = some n) (hR : rm.frames + 1 ≤ R.frames ∧ 8 + (maxL + 11) + rm.locals ≤ R.locals) :
    vx_CVW R s args own C index y bytes maxL ret hh ws rm mc ms n := by
  obtain ⟨hC, hd⟩ := hd
  subst hC
  have ok : ∀ w ∈ wsV own index y.cls y ws, w.before args s = true := fun w h => ht w (hT w h).1
  have hG : GoodIn Ts ws := fun w h => hT w (by unfold wsV; exact List.mem_append_right _ h)
  have hc : Cond.codeWith y bytes maxL ret hh ∈ ws := by rw [hw]; exact List.mem_cons_self
  refine ⟨⟨hrc, hrs, hR.1, hR.2, pay_in ht hG, hc⟩, ht _ (hG _ hc).1, ok _ (by simp [wsV]), ⟨hd.1, hd.2.1⟩, fun sig h => ?_, ok _ (by simp [wsV]), ok _ (by simp [wsV]), ok _ (by simp [wsV])⟩
  have h2 := hd.2.2
  rw [h] at h2
  exact (Option.some.inj h2).symm
theorem vx_runVW {y : MethodName} {bytes cc : ByteArray} {maxL nL mc ms n index : Nat} {ret : Option FieldType} {hh : List (Nat × Nat × Nat × Nat)} {ws : List Cond} {rm : Room} {Pc : Array Value → State → Prop} {Qc : Array Value → State → Outcome → State → Prop} {free : Addr → Prop} {Ts : List Cond} {own C : String} {b : Addr} {As rest : List Value} {g : JFrame}
    (S : CallFix p m c cc nL s args Ts own) (hM : Met l y ws rm Pc Qc mc ms free) (cw : vx_CVW R s args own C index y bytes maxL ret hh ws rm mc ms n) (hp : PreV s H C b Pc As)
    (hg : g.method = m) (hn : As.length = n) (hsize : g.locals.size = nL) (hstack : g.stack = As.reverse ++ .ref b :: rest) (hW : 2 * g.monitorRoom + (rest.map fun v => v.category).sum ≤ 8) (hdg : decode cc g.pc = .ok (.invokevirtual index, 3)) (hf : cells + mc ≤ R.cells ∧ slots + ms ≤ R.slots) :
    va_Run p l e R s m args below meth c H locs cells slots mc ms g rest (Qc (Value.ref b :: As).toArray) free := by
  obtain ⟨⟨hrc, hrs, hfr, hlo, hws, hcw⟩, hcode, hini, hy, hlen, hl, hin, hse⟩ := cw
  have hK : Back l R p e below s args y 3 8 (PreOf R mc ms Pc) (PostOf Qc mc ms free) := va_backW (hh := hh) (bytes := bytes) (maxL := maxL) (ret := ret) hM hp.1 hrc hrs hfr hlo hws hcw (fun a' U hW => word_at hW (Or.inl (by first | rfl | simp [Cond.onTables, Cond.keeps, Cond.steady])) hini)
  obtain ⟨hx, hb, hml, ho, -⟩ := S
  obtain ⟨-, ⟨cellB, hcB, hoB, hclB⟩, hPc⟩ := hp
  intro T hT X
  obtain ⟨v, vm₁, ⟨U', l2, c2, s2⟩, hW₁, X', ⟨g', mk, t, L, e1, e2, hq, h1, hL, h2, h3⟩, st⟩ := vx_callVW X hx (C := C) (hh := hh) (bytes := bytes) (maxL := maxL) (ret := ret) ho hl hin hse hcode hy hK (by rw [hT]; exact hcB) hoB hclB hg (hsize.trans hml.symm) (argsL := As) (rest := rest) (fun sig h => hn.trans (hlen sig h)) hstack hW (by rw [hb]; exact hdg)
    (fun vm₁ hW₁ => ⟨hf.1, hf.2, hPc (T.setVm vm₁) hT hW₁⟩)
  dsimp only [Pt.U, Pt.locs, Pt.cells, Pt.slots] at X' e1 e2 h1 h2 h3 st
  subst h1; subst h2; subst h3
  exact ⟨v, (T.setVm vm₁).calling g' mk (Value.ref b :: As).toArray, t, U', L, hT, X', hL, e1, e2, hq, st⟩
section
variable {y : MethodName} {bytes cc : ByteArray} {maxL nL mc ms n index : Nat} {ret : Option FieldType} {ws : List Cond} {rm : Room} {Pc : Array Value → State → Prop} {Qc : Array Value → State → Outcome → State → Prop} {XC : String → State → State → Prop} {free : Addr → Prop} {Ts : List Cond} {own C : String} {b : Addr} {As rest : List Value} {g : JFrame}
theorem vx_runVX {hh : List (Nat × Nat × Nat × Nat)} (S : CallFix p m c cc nL s args Ts own) (hM : vx_Met l y ws rm Pc Qc XC mc ms free) (cw : vx_CVW R s args own C index y bytes maxL ret hh ws rm mc ms n) (hp : PreV s H C b Pc As)
    (hg : g.method = m) (hn : As.length = n) (hsize : g.locals.size = nL) (hstack : g.stack = As.reverse ++ .ref b :: rest) (hW : 2 * g.monitorRoom + (rest.map fun v => v.category).sum ≤ 8) (hdg : decode cc g.pc = .ok (.invokevirtual index, 3)) (hf : cells + mc ≤ R.cells ∧ slots + ms ≤ R.slots) :
    vx_Run p l e R s m args below meth c H locs cells slots mc ms g rest (Qc (Value.ref b :: As).toArray) XC free := by
  obtain ⟨⟨hrc, hrs, hfr, hlo, hws, hcw⟩, hcode, hini, hy, hlen, hl, hin, hse⟩ := cw
  have hK : vx_Back l R p e below s args y 3 8 (PreOf R mc ms Pc) (PostOf Qc mc ms free) (vx_Post XC mc ms free) := vx_backW (hh := hh) (bytes := bytes) (maxL := maxL) (ret := ret) hM hp.1 hrc hrs hfr hlo hws hcw (fun a' U hW => word_at hW (Or.inl (by first | rfl | simp [Cond.onTables, Cond.keeps, Cond.steady])) hini)
  obtain ⟨hx, hb, hml, ho, -⟩ := S
  obtain ⟨-, ⟨cellB, hcB, hoB, hclB⟩, hPc⟩ := hp
  intro T hT X
  rcases vx_callVX X hx (C := C) (hh := hh) (bytes := bytes) (maxL := maxL) (ret := ret) ho hl hin hse hcode hy hK (by rw [hT]; exact hcB) hoB hclB hg (hsize.trans hml.symm) (argsL := As) (rest := rest) (fun sig h => hn.trans (hlen sig h)) hstack hW (by rw [hb]; exact hdg)
    (fun vm₁ hW₁ => ⟨hf.1, hf.2, hPc (T.setVm vm₁) hT hW₁⟩) with ⟨v, vm₁, ⟨U', l2, c2, s2⟩, hW₁, X', ⟨g', mk, t, L, e1, e2, hq, h1, hL, h2, h3⟩, st⟩ | ⟨q, vm₁, ⟨U', l2, c2, s2⟩, hW₁, X', ⟨g', mk, t, L, E, ce, e1, e2, hq, hce, hcv, hcl, h1, hL, h2, h3⟩, st⟩
  · dsimp only [Pt.U, Pt.locs, Pt.cells, Pt.slots] at X' e1 e2 h1 h2 h3 st
    subst h1; subst h2; subst h3
    exact Or.inl ⟨v, (T.setVm vm₁).calling g' mk (Value.ref b :: As).toArray, t, U', L, hT, X', hL, e1, e2, hq, st⟩
  · dsimp only [Pt.U, Pt.locs, Pt.cells, Pt.slots] at X' e1 e2 h1 h2 h3 st hcl
    subst h1; subst h2; subst h3
    exact Or.inr ⟨q, (T.setVm vm₁).calling g' mk (Value.ref b :: As).toArray, t, U', L, E, ce, hT, X', hL, e1, e2, hq, hce, hcv, vx_cls hW₁ hcl, st⟩
theorem vx_runSX {hh : List (Nat × Nat × Nat × Nat)} (S : CallFix p m c cc nL s args Ts own) (hM : vx_Met l y ws rm Pc Qc XC mc ms free) (cw : vx_CSW R s args own index y bytes maxL ret hh ws rm mc ms n) (hp : PreS s H Pc As)
    (hg : g.method = m) (hn : As.length = n) (hsize : g.locals.size = nL) (hstack : g.stack = As.reverse ++ rest) (hW : 2 * g.monitorRoom + (rest.map fun v => v.category).sum ≤ 8) (hdg : decode cc g.pc = .ok (.invokestatic index, 3)) (hf : cells + mc ≤ R.cells ∧ slots + ms ≤ R.slots) :
    vx_Run p l e R s m args below meth c H locs cells slots mc ms g rest (Qc As.toArray) XC free := by
  obtain ⟨⟨hrc, hrs, hfr, hlo, hws, hcw⟩, hcode, hini, hy, hlen, hl, hstt⟩ := cw
  have hK : vx_Back l R p e below s args y 3 8 (PreOf R mc ms Pc) (PostOf Qc mc ms free) (vx_Post XC mc ms free) := vx_backW (hh := hh) (bytes := bytes) (maxL := maxL) (ret := ret) hM hp.1 hrc hrs hfr hlo hws hcw (fun a' U hW => word_at hW (Or.inl (by first | rfl | simp [Cond.onTables, Cond.keeps, Cond.steady])) hini)
  obtain ⟨hx, hb, hml, ho, -⟩ := S
  intro T hT X
  rcases vx_callSX X hx (hh := hh) (bytes := bytes) (maxL := maxL) (ret := ret) ho hl hstt hini hcode hy hK hg (hsize.trans hml.symm) (argsL := As) (rest := rest) (fun sig h => hn.trans (hlen sig h)) hstack hW (by rw [hb]; exact hdg)
    (fun vm₁ hW₁ => ⟨hf.1, hf.2, hp.2 (T.setVm vm₁) hT hW₁⟩) with ⟨v, vm₁, ⟨U', l2, c2, s2⟩, hW₁, X', ⟨g', mk, t, L, e1, e2, hq, h1, hL, h2, h3⟩, st⟩ | ⟨q, vm₁, ⟨U', l2, c2, s2⟩, hW₁, X', ⟨g', mk, t, L, E, ce, e1, e2, hq, hce, hcv, hcl, h1, hL, h2, h3⟩, st⟩
  · dsimp only [Pt.U, Pt.locs, Pt.cells, Pt.slots] at X' e1 e2 h1 h2 h3 st
    subst h1; subst h2; subst h3
    exact Or.inl ⟨v, (T.setVm vm₁).calling g' mk As.toArray, t, U', L, hT, X', hL, e1, e2, hq, st⟩
  · dsimp only [Pt.U, Pt.locs, Pt.cells, Pt.slots] at X' e1 e2 h1 h2 h3 st hcl
    subst h1; subst h2; subst h3
    exact Or.inr ⟨q, (T.setVm vm₁).calling g' mk As.toArray, t, U', L, E, ce, hT, X', hL, e1, e2, hq, hce, hcv, vx_cls hW₁ hcl, st⟩
end
end VXH
theorem vx_ofWH {l : Launch} {y : MethodName} {ws ws' : List Cond} {rm : Room} {Pc : Array Value → State → Prop} {Qc : Array Value → State → Outcome → State → Prop} {XC : String → State → State → Prop} {mc ms : Nat} {free : Addr → Prop} {cc : ByteArray} {maxL : Nat} {ret : Option FieldType} {hh : List (Nat × Nat × Nat × Nat)}
    (hy : plainName y.cls = true) (hw : ws = Cond.codeWith y cc maxL ret hh :: ws')
    (body : ∀ p e s m args below meth c s₁, BodyLoose p l y (headSpec ws rm) cc maxL ret e s m args below meth c s₁ → c.maxLocals = maxL → Pc args s →
      W p l e (headSpec ws rm).room s m args below meth c s.heap [] 0 0 (vx_MQ below Qc XC args s mc ms free) (entryFrame m args maxL)) : vx_Met l y ws rm Pc Qc XC mc ms free := by
  refine MetFree.of_bodyS (code := cc) (maxLocals := maxL) (ret := ret) hy ?_ ?_
  · intro args s m h hn
    obtain ⟨m9, meth, c, hn9, h1, h2, h3, h4, -, h5, h6, -⟩ := Cond.codeWith_spec (atoms_spec (ws := ws) h _ (by rw [hw]; exact List.mem_cons_self))
    cases hn.symm.trans hn9
    exact ⟨meth, c, h1, h2, h3, h4, h5, h6⟩
  · intro p e s m args below meth c s₁ B hml hP _
    have hh0 : s₁.heap = s.heap := by rw [B.state]; rfl
    obtain ⟨t, a1, o, b1, b2, b3⟩ := body p e s m args below meth c s₁ B hml hP s₁ hh0 (Stand.of_body B)
    exact ⟨t, o, a1, b1, b2, b3⟩
/-! ===== END ===== -/
end
section
def RX0 : String := "Shredroll$Crate"
def TX0 : u_T := fun k => match k with
  | 0 => ("Shredroll$Crate", "number", "I", true)
  | 1 => ("Shredroll$Crate", "keeper", "I", false)
  | 2 => ("Shredroll$Crate", "seal", "I", false)
  | _ => ("Shredroll$Crate", "remembered", "I", false)
def tyX0 : Nat → FieldType := fun k => match k with
  | 0 => .int
  | 1 => .int
  | 2 => .int
  | _ => .int
abbrev wsX00 : List Cond := u_ws RX0 TX0 4
theorem nmX0 : ∀ a, a < 4 → ∀ b, b < 4 → a ≠ b → (TX0 a).2.1 ≠ (TX0 b).2.1 := by decide +kernel
theorem tyX0_ok : ∀ k, k < 4 → parseFieldDescriptor (TX0 k).2.2.1 = some (tyX0 k) := by decide +kernel
abbrev cX0_init : ByteArray := prog_2_method_1_code
def yX0_init : MethodName := ⟨RX0, "<init>", "(I)V"⟩
abbrev cX0_isSealed : ByteArray := prog_2_method_2_code
def yX0_isSealed : MethodName := ⟨RX0, "isSealed", "()Z"⟩
def RX1 : String := "Shredroll$Disk"
def TX1 : u_T := fun k => match k with
  | 0 => ("Shredroll$Disk", "kind", "I", true)
  | 1 => ("Shredroll$Disk", "secrecy", "I", true)
  | 2 => ("Shredroll$Disk", "keeper", "I", false)
  | 3 => ("Shredroll$Disk", "loggedKeeper", "I", false)
  | 4 => ("Shredroll$Disk", "crate", "LShredroll$Crate;", false)
  | 5 => ("Shredroll$Disk", "offeredTo", "I", false)
  | 6 => ("Shredroll$Disk", "state", "I", false)
  | 7 => ("Shredroll$Disk", "doer", "I", false)
  | 8 => ("Shredroll$Disk", "isFoundGood", "Z", false)
  | 9 => ("Shredroll$Disk", "isMissing", "Z", false)
  | _ => ("Shredroll$Disk", "certificate", "I", false)
def tyX1 : Nat → FieldType := fun k => match k with
  | 0 => .int
  | 1 => .int
  | 2 => .int
  | 3 => .int
  | 4 => .object "Shredroll$Crate"
  | 5 => .int
  | 6 => .int
  | 7 => .int
  | 8 => .boolean
  | 9 => .boolean
  | _ => .int
abbrev wsX10 : List Cond := u_ws RX1 TX1 11
theorem nmX1 : ∀ a, a < 11 → ∀ b, b < 11 → a ≠ b → (TX1 a).2.1 ≠ (TX1 b).2.1 := by decide +kernel
theorem tyX1_ok : ∀ k, k < 11 → parseFieldDescriptor (TX1 k).2.2.1 = some (tyX1 k) := by decide +kernel
abbrev cX1_init : ByteArray := prog_3_method_1_code
def yX1_init : MethodName := ⟨RX1, "<init>", "(II)V"⟩
abbrev cX1_crateNumber : ByteArray := prog_3_method_2_code
def yX1_crateNumber : MethodName := ⟨RX1, "crateNumber", "()I"⟩
abbrev cX1_isSealedIn : ByteArray := prog_3_method_3_code
def yX1_isSealedIn : MethodName := ⟨RX1, "isSealedIn", "()Z"⟩
abbrev cX1_isFinished : ByteArray := prog_3_method_4_code
def yX1_isFinished : MethodName := ⟨RX1, "isFinished", "()Z"⟩
abbrev cX1_awaitsCertificate : ByteArray := prog_3_method_5_code
def yX1_awaitsCertificate : MethodName := ⟨RX1, "awaitsCertificate", "()Z"⟩
def RX2 : String := "Shredroll"
def TX2 : u_T := fun k => match k with
  | 0 => ("Shredroll", "broughtDisks", "[LShredroll$Disk;", true)
  | 1 => ("Shredroll", "allCrates", "[LShredroll$Crate;", true)
  | 2 => ("Shredroll", "diskCount", "I", false)
  | 3 => ("Shredroll", "sealCount", "I", false)
  | 4 => ("Shredroll", "oddCount", "I", false)
  | 5 => ("Shredroll", "logCount", "I", false)
  | _ => ("Shredroll", "certificateCount", "I", false)
def tyX2 : Nat → FieldType := fun k => match k with
  | 0 => .array (.object "Shredroll$Disk")
  | 1 => .array (.object "Shredroll$Crate")
  | 2 => .int
  | 3 => .int
  | 4 => .int
  | 5 => .int
  | _ => .int
abbrev wsX20 : List Cond := u_ws RX2 TX2 7
theorem nmX2 : ∀ a, a < 7 → ∀ b, b < 7 → a ≠ b → (TX2 a).2.1 ≠ (TX2 b).2.1 := by decide +kernel
theorem tyX2_ok : ∀ k, k < 7 → parseFieldDescriptor (TX2 k).2.2.1 = some (tyX2 k) := by decide +kernel
abbrev cX2_init : ByteArray := prog_1_method_1_code
def yX2_init : MethodName := ⟨RX2, "<init>", "()V"⟩
abbrev cX2_bring : ByteArray := prog_1_method_2_code
def yX2_bring : MethodName := ⟨RX2, "bring", "(III)I"⟩
abbrev cX2_offer : ByteArray := prog_1_method_3_code
def yX2_offer : MethodName := ⟨RX2, "offer", "(II)I"⟩
abbrev cX2_answer : ByteArray := prog_1_method_4_code
def yX2_answer : MethodName := ⟨RX2, "answer", "(IZ)I"⟩
abbrev cX2_pack : ByteArray := prog_1_method_5_code
def yX2_pack : MethodName := ⟨RX2, "pack", "(II)I"⟩
abbrev cX2_unpack : ByteArray := prog_1_method_6_code
def yX2_unpack : MethodName := ⟨RX2, "unpack", "(I)I"⟩
abbrev cX2_seal : ByteArray := prog_1_method_7_code
def yX2_seal : MethodName := ⟨RX2, "seal", "(I)I"⟩
abbrev cX2_open : ByteArray := prog_1_method_8_code
def yX2_open : MethodName := ⟨RX2, "open", "(II)I"⟩
abbrev cX2_carry : ByteArray := prog_1_method_9_code
def yX2_carry : MethodName := ⟨RX2, "carry", "(II)I"⟩
abbrev cX2_wipe : ByteArray := prog_1_method_10_code
def yX2_wipe : MethodName := ⟨RX2, "wipe", "(III)I"⟩
abbrev cX2_smash : ByteArray := prog_1_method_11_code
def yX2_smash : MethodName := ⟨RX2, "smash", "(II)I"⟩
abbrev cX2_check : ByteArray := prog_1_method_12_code
def yX2_check : MethodName := ⟨RX2, "check", "(IIZ)I"⟩
abbrev cX2_lose : ByteArray := prog_1_method_13_code
def yX2_lose : MethodName := ⟨RX2, "lose", "(I)I"⟩
abbrev cX2_find : ByteArray := prog_1_method_14_code
def yX2_find : MethodName := ⟨RX2, "find", "(I)I"⟩
abbrev cX2_certify : ByteArray := prog_1_method_15_code
def yX2_certify : MethodName := ⟨RX2, "certify", "(I)I"⟩
abbrev cX2_disks : ByteArray := prog_1_method_16_code
def yX2_disks : MethodName := ⟨RX2, "disks", "()I"⟩
abbrev cX2_keeperOf : ByteArray := prog_1_method_17_code
def yX2_keeperOf : MethodName := ⟨RX2, "keeperOf", "(I)I"⟩
abbrev cX2_keeperByLog : ByteArray := prog_1_method_18_code
def yX2_keeperByLog : MethodName := ⟨RX2, "keeperByLog", "(I)I"⟩
abbrev cX2_crateOf : ByteArray := prog_1_method_19_code
def yX2_crateOf : MethodName := ⟨RX2, "crateOf", "(I)I"⟩
abbrev cX2_stateOf : ByteArray := prog_1_method_20_code
def yX2_stateOf : MethodName := ⟨RX2, "stateOf", "(I)I"⟩
abbrev cX2_isDone : ByteArray := prog_1_method_21_code
def yX2_isDone : MethodName := ⟨RX2, "isDone", "(I)Z"⟩
abbrev cX2_offeredTo : ByteArray := prog_1_method_22_code
def yX2_offeredTo : MethodName := ⟨RX2, "offeredTo", "(I)I"⟩
abbrev cX2_certificateOf : ByteArray := prog_1_method_23_code
def yX2_certificateOf : MethodName := ⟨RX2, "certificateOf", "(I)I"⟩
abbrev cX2_crateKeeper : ByteArray := prog_1_method_24_code
def yX2_crateKeeper : MethodName := ⟨RX2, "crateKeeper", "(I)I"⟩
abbrev cX2_sealOf : ByteArray := prog_1_method_25_code
def yX2_sealOf : MethodName := ⟨RX2, "sealOf", "(I)I"⟩
abbrev cX2_has : ByteArray := prog_1_method_26_code
def yX2_has : MethodName := ⟨RX2, "has", "(I)I"⟩
abbrev cX2_missing : ByteArray := prog_1_method_27_code
def yX2_missing : MethodName := ⟨RX2, "missing", "()I"⟩
abbrev cX2_oddCounts : ByteArray := prog_1_method_28_code
def yX2_oddCounts : MethodName := ⟨RX2, "oddCounts", "()I"⟩
abbrev cX2_logged : ByteArray := prog_1_method_29_code
def yX2_logged : MethodName := ⟨RX2, "logged", "()I"⟩
abbrev cX2_certificates : ByteArray := prog_1_method_30_code
def yX2_certificates : MethodName := ⟨RX2, "certificates", "()I"⟩
abbrev cX2_findDisk : ByteArray := prog_1_method_31_code
def yX2_findDisk : MethodName := ⟨RX2, "findDisk", "(I)LShredroll$Disk;"⟩
abbrev cX2_findCrate : ByteArray := prog_1_method_32_code
def yX2_findCrate : MethodName := ⟨RX2, "findCrate", "(I)LShredroll$Crate;"⟩
abbrev cX2_countDisksIn : ByteArray := prog_1_method_33_code
def yX2_countDisksIn : MethodName := ⟨RX2, "countDisksIn", "(LShredroll$Crate;)I"⟩
abbrev cX2_handOverDisksIn : ByteArray := prog_1_method_34_code
def yX2_handOverDisksIn : MethodName := ⟨RX2, "handOverDisksIn", "(LShredroll$Crate;)V"⟩
abbrev cX2_handOver : ByteArray := prog_1_method_35_code
def yX2_handOver : MethodName := ⟨RX2, "handOver", "(LShredroll$Disk;I)V"⟩
abbrev cX2_requireKeeper : ByteArray := prog_1_method_36_code
def yX2_requireKeeper : MethodName := ⟨RX2, "requireKeeper", "(I)V"⟩
abbrev cX2_requireLoose : ByteArray := prog_1_method_37_code
def yX2_requireLoose : MethodName := ⟨RX2, "requireLoose", "(LShredroll$Disk;)V"⟩
abbrev cX2_requireWithinReach : ByteArray := prog_1_method_38_code
def yX2_requireWithinReach : MethodName := ⟨RX2, "requireWithinReach", "(LShredroll$Disk;)V"⟩
abbrev cX2_requireWitnessIsNotKeeper : ByteArray := prog_1_method_39_code
def yX2_requireWitnessIsNotKeeper : MethodName := ⟨RX2, "requireWitnessIsNotKeeper", "(LShredroll$Disk;I)V"⟩
def RX3 : String := "ShredrollModel"
def TX3 : u_T := fun k => match k with
  | 0 => ("ShredrollModel", "disks", "I", false)
  | 1 => ("ShredrollModel", "kind", "[I", true)
  | 2 => ("ShredrollModel", "secrecy", "[I", true)
  | 3 => ("ShredrollModel", "keeper", "[I", true)
  | 4 => ("ShredrollModel", "crate", "[I", true)
  | 5 => ("ShredrollModel", "state", "[I", true)
  | 6 => ("ShredrollModel", "isMissing", "[Z", true)
  | 7 => ("ShredrollModel", "offered", "[I", true)
  | 8 => ("ShredrollModel", "doer", "[I", true)
  | 9 => ("ShredrollModel", "isChecked", "[Z", true)
  | 10 => ("ShredrollModel", "certificate", "[I", true)
  | 11 => ("ShredrollModel", "crateKeeper", "[I", true)
  | 12 => ("ShredrollModel", "seal", "[I", true)
  | 13 => ("ShredrollModel", "remembered", "[I", true)
  | 14 => ("ShredrollModel", "seals", "I", false)
  | 15 => ("ShredrollModel", "odd", "I", false)
  | 16 => ("ShredrollModel", "entries", "I", false)
  | 17 => ("ShredrollModel", "certificates", "I", false)
  | _ => ("ShredrollModel", "thrown", "I", false)
def tyX3 : Nat → FieldType := fun k => match k with
  | 0 => .int
  | 1 => .array .int
  | 2 => .array .int
  | 3 => .array .int
  | 4 => .array .int
  | 5 => .array .int
  | 6 => .array .boolean
  | 7 => .array .int
  | 8 => .array .int
  | 9 => .array .boolean
  | 10 => .array .int
  | 11 => .array .int
  | 12 => .array .int
  | 13 => .array .int
  | 14 => .int
  | 15 => .int
  | 16 => .int
  | 17 => .int
  | _ => .int
abbrev wsX30 : List Cond := u_ws RX3 TX3 19
theorem nmX3 : ∀ a, a < 19 → ∀ b, b < 19 → a ≠ b → (TX3 a).2.1 ≠ (TX3 b).2.1 := by decide +kernel
theorem tyX3_ok : ∀ k, k < 19 → parseFieldDescriptor (TX3 k).2.2.1 = some (tyX3 k) := by decide +kernel
abbrev cX3_init : ByteArray := prog_5_method_1_code
def yX3_init : MethodName := ⟨RX3, "<init>", "()V"⟩
abbrev cX3_thrown : ByteArray := prog_5_method_2_code
def yX3_thrown : MethodName := ⟨RX3, "thrown", "()I"⟩
abbrev cX3_can : ByteArray := prog_5_method_3_code
def yX3_can : MethodName := ⟨RX3, "can", "(I)Z"⟩
abbrev cX3_isIn : ByteArray := prog_5_method_4_code
def yX3_isIn : MethodName := ⟨RX3, "isIn", "(III)Z"⟩
abbrev cX3_isDisk : ByteArray := prog_5_method_5_code
def yX3_isDisk : MethodName := ⟨RX3, "isDisk", "(I)Z"⟩
abbrev cX3_isKeeper : ByteArray := prog_5_method_6_code
def yX3_isKeeper : MethodName := ⟨RX3, "isKeeper", "(I)Z"⟩
abbrev cX3_isCrate : ByteArray := prog_5_method_7_code
def yX3_isCrate : MethodName := ⟨RX3, "isCrate", "(I)Z"⟩
abbrev cX3_isShut : ByteArray := prog_5_method_8_code
def yX3_isShut : MethodName := ⟨RX3, "isShut", "(I)Z"⟩
abbrev cX3_isBarred : ByteArray := prog_5_method_9_code
def yX3_isBarred : MethodName := ⟨RX3, "isBarred", "(I)Z"⟩
abbrev cX3_bring : ByteArray := prog_5_method_10_code
def yX3_bring : MethodName := ⟨RX3, "bring", "(III)I"⟩
abbrev cX3_offer : ByteArray := prog_5_method_11_code
def yX3_offer : MethodName := ⟨RX3, "offer", "(II)I"⟩
abbrev cX3_answer : ByteArray := prog_5_method_12_code
def yX3_answer : MethodName := ⟨RX3, "answer", "(IZ)I"⟩
abbrev cX3_countIn : ByteArray := prog_5_method_13_code
def yX3_countIn : MethodName := ⟨RX3, "countIn", "(I)I"⟩
abbrev cX3_pack : ByteArray := prog_5_method_14_code
def yX3_pack : MethodName := ⟨RX3, "pack", "(II)I"⟩
abbrev cX3_unpack : ByteArray := prog_5_method_15_code
def yX3_unpack : MethodName := ⟨RX3, "unpack", "(I)I"⟩
abbrev cX3_seal : ByteArray := prog_5_method_16_code
def yX3_seal : MethodName := ⟨RX3, "seal", "(I)I"⟩
abbrev cX3_open : ByteArray := prog_5_method_17_code
def yX3_open : MethodName := ⟨RX3, "open", "(II)I"⟩
abbrev cX3_carry : ByteArray := prog_5_method_18_code
def yX3_carry : MethodName := ⟨RX3, "carry", "(II)I"⟩
abbrev cX3_wipe : ByteArray := prog_5_method_19_code
def yX3_wipe : MethodName := ⟨RX3, "wipe", "(III)I"⟩
abbrev cX3_smash : ByteArray := prog_5_method_20_code
def yX3_smash : MethodName := ⟨RX3, "smash", "(II)I"⟩
abbrev cX3_check : ByteArray := prog_5_method_21_code
def yX3_check : MethodName := ⟨RX3, "check", "(IIZ)I"⟩
abbrev cX3_lose : ByteArray := prog_5_method_22_code
def yX3_lose : MethodName := ⟨RX3, "lose", "(I)I"⟩
abbrev cX3_find : ByteArray := prog_5_method_23_code
def yX3_find : MethodName := ⟨RX3, "find", "(I)I"⟩
abbrev cX3_isOver : ByteArray := prog_5_method_24_code
def yX3_isOver : MethodName := ⟨RX3, "isOver", "(I)Z"⟩
abbrev cX3_certify : ByteArray := prog_5_method_25_code
def yX3_certify : MethodName := ⟨RX3, "certify", "(I)I"⟩
abbrev cX3_disks : ByteArray := prog_5_method_26_code
def yX3_disks : MethodName := ⟨RX3, "disks", "()I"⟩
abbrev cX3_isAsked : ByteArray := prog_5_method_27_code
def yX3_isAsked : MethodName := ⟨RX3, "isAsked", "(I)Z"⟩
abbrev cX3_keeperOf : ByteArray := prog_5_method_28_code
def yX3_keeperOf : MethodName := ⟨RX3, "keeperOf", "(I)I"⟩
abbrev cX3_keeperByLog : ByteArray := prog_5_method_29_code
def yX3_keeperByLog : MethodName := ⟨RX3, "keeperByLog", "(I)I"⟩
abbrev cX3_crateOf : ByteArray := prog_5_method_30_code
def yX3_crateOf : MethodName := ⟨RX3, "crateOf", "(I)I"⟩
abbrev cX3_stateOf : ByteArray := prog_5_method_31_code
def yX3_stateOf : MethodName := ⟨RX3, "stateOf", "(I)I"⟩
abbrev cX3_isDone : ByteArray := prog_5_method_32_code
def yX3_isDone : MethodName := ⟨RX3, "isDone", "(I)Z"⟩
abbrev cX3_offeredTo : ByteArray := prog_5_method_33_code
def yX3_offeredTo : MethodName := ⟨RX3, "offeredTo", "(I)I"⟩
abbrev cX3_certificateOf : ByteArray := prog_5_method_34_code
def yX3_certificateOf : MethodName := ⟨RX3, "certificateOf", "(I)I"⟩
abbrev cX3_crateKeeper : ByteArray := prog_5_method_35_code
def yX3_crateKeeper : MethodName := ⟨RX3, "crateKeeper", "(I)I"⟩
abbrev cX3_sealOf : ByteArray := prog_5_method_36_code
def yX3_sealOf : MethodName := ⟨RX3, "sealOf", "(I)I"⟩
abbrev cX3_has : ByteArray := prog_5_method_37_code
def yX3_has : MethodName := ⟨RX3, "has", "(I)I"⟩
abbrev cX3_missing : ByteArray := prog_5_method_38_code
def yX3_missing : MethodName := ⟨RX3, "missing", "()I"⟩
abbrev cX3_oddCounts : ByteArray := prog_5_method_39_code
def yX3_oddCounts : MethodName := ⟨RX3, "oddCounts", "()I"⟩
abbrev cX3_logged : ByteArray := prog_5_method_40_code
def yX3_logged : MethodName := ⟨RX3, "logged", "()I"⟩
abbrev cX3_certificates : ByteArray := prog_5_method_41_code
def yX3_certificates : MethodName := ⟨RX3, "certificates", "()I"⟩
def RJ0 : String := "java/lang/String"
def RL : String := "ShredrollLaw"
abbrev cL_bring : ByteArray := method_3_code
def yL_bring : MethodName := ⟨RL, "bring", "(LShredroll;III[J)I"⟩
abbrev cL_offer : ByteArray := method_4_code
def yL_offer : MethodName := ⟨RL, "offer", "(LShredroll;II[J)I"⟩
abbrev cL_answer : ByteArray := method_5_code
def yL_answer : MethodName := ⟨RL, "answer", "(LShredroll;IZ[J)I"⟩
abbrev cL_pack : ByteArray := method_6_code
def yL_pack : MethodName := ⟨RL, "pack", "(LShredroll;II[J)I"⟩
abbrev cL_unpack : ByteArray := method_7_code
def yL_unpack : MethodName := ⟨RL, "unpack", "(LShredroll;I[J)I"⟩
abbrev cL_seal : ByteArray := method_8_code
def yL_seal : MethodName := ⟨RL, "seal", "(LShredroll;I[J)I"⟩
abbrev cL_open : ByteArray := method_9_code
def yL_open : MethodName := ⟨RL, "open", "(LShredroll;II[J)I"⟩
abbrev cL_carry : ByteArray := method_10_code
def yL_carry : MethodName := ⟨RL, "carry", "(LShredroll;II[J)I"⟩
abbrev cL_wipe : ByteArray := method_11_code
def yL_wipe : MethodName := ⟨RL, "wipe", "(LShredroll;III[J)I"⟩
abbrev cL_smash : ByteArray := method_12_code
def yL_smash : MethodName := ⟨RL, "smash", "(LShredroll;II[J)I"⟩
abbrev cL_check : ByteArray := method_13_code
def yL_check : MethodName := ⟨RL, "check", "(LShredroll;IIZ[J)I"⟩
abbrev cL_lose : ByteArray := method_14_code
def yL_lose : MethodName := ⟨RL, "lose", "(LShredroll;I[J)I"⟩
abbrev cL_find : ByteArray := method_15_code
def yL_find : MethodName := ⟨RL, "find", "(LShredroll;I[J)I"⟩
abbrev cL_certify : ByteArray := method_16_code
def yL_certify : MethodName := ⟨RL, "certify", "(LShredroll;I[J)I"⟩
abbrev cL_keeperOf : ByteArray := method_17_code
def yL_keeperOf : MethodName := ⟨RL, "keeperOf", "(LShredroll;I[J)I"⟩
abbrev cL_keeperByLog : ByteArray := method_18_code
def yL_keeperByLog : MethodName := ⟨RL, "keeperByLog", "(LShredroll;I[J)I"⟩
abbrev cL_crateOf : ByteArray := method_19_code
def yL_crateOf : MethodName := ⟨RL, "crateOf", "(LShredroll;I[J)I"⟩
abbrev cL_stateOf : ByteArray := method_20_code
def yL_stateOf : MethodName := ⟨RL, "stateOf", "(LShredroll;I[J)I"⟩
abbrev cL_isDone : ByteArray := method_21_code
def yL_isDone : MethodName := ⟨RL, "isDone", "(LShredroll;I[J)I"⟩
abbrev cL_offeredTo : ByteArray := method_22_code
def yL_offeredTo : MethodName := ⟨RL, "offeredTo", "(LShredroll;I[J)I"⟩
abbrev cL_certificateOf : ByteArray := method_23_code
def yL_certificateOf : MethodName := ⟨RL, "certificateOf", "(LShredroll;I[J)I"⟩
abbrev cL_crateKeeper : ByteArray := method_24_code
def yL_crateKeeper : MethodName := ⟨RL, "crateKeeper", "(LShredroll;I[J)I"⟩
abbrev cL_sealOf : ByteArray := method_25_code
def yL_sealOf : MethodName := ⟨RL, "sealOf", "(LShredroll;I[J)I"⟩
abbrev cL_has : ByteArray := method_26_code
def yL_has : MethodName := ⟨RL, "has", "(LShredroll;I[J)I"⟩
abbrev cL_law : ByteArray := code
def yL_law : MethodName := ⟨RL, "law", "([I)Z"⟩
abbrev vwCl : List vw_C := [(RX0, TX0, 4), (RX1, TX1, 11), (RX2, TX2, 7), (RX3, TX3, 19)]
end
section
theorem dX0_init_0 : decode cX0_init 0 = .ok (.aload_n 0, 1) := by decide +kernel
theorem dX0_init_1 : decode cX0_init 1 = .ok (.invokespecial 3, 3) := by decide +kernel
theorem dX0_init_4 : decode cX0_init 4 = .ok (.aload_n 0, 1) := by decide +kernel
theorem dX0_init_5 : decode cX0_init 5 = .ok (.iconst (-1), 1) := by decide +kernel
theorem dX0_init_6 : decode cX0_init 6 = .ok (.putfield 9, 3) := by decide +kernel
theorem dX0_init_9 : decode cX0_init 9 = .ok (.aload_n 0, 1) := by decide +kernel
theorem dX0_init_10 : decode cX0_init 10 = .ok (.iload_n 1, 1) := by decide +kernel
theorem dX0_init_11 : decode cX0_init 11 = .ok (.putfield 15, 3) := by decide +kernel
theorem dX0_init_14 : decode cX0_init 14 = .ok (.return_, 1) := by decide +kernel
theorem dX0_isSealed_0 : decode cX0_isSealed 0 = .ok (.aload_n 0, 1) := by decide +kernel
theorem dX0_isSealed_1 : decode cX0_isSealed 1 = .ok (.getfield 9, 3) := by decide +kernel
theorem dX0_isSealed_4 : decode cX0_isSealed 4 = .ok (.iconst (-1), 1) := by decide +kernel
theorem dX0_isSealed_5 : decode cX0_isSealed 5 = .ok (.if_icmp .eq 7, 3) := by decide +kernel
theorem dX0_isSealed_8 : decode cX0_isSealed 8 = .ok (.iconst 1, 1) := by decide +kernel
theorem dX0_isSealed_9 : decode cX0_isSealed 9 = .ok (.goto 4, 3) := by decide +kernel
theorem dX0_isSealed_12 : decode cX0_isSealed 12 = .ok (.iconst 0, 1) := by decide +kernel
theorem dX0_isSealed_13 : decode cX0_isSealed 13 = .ok (.ireturn, 1) := by decide +kernel
theorem dX1_init_0 : decode cX1_init 0 = .ok (.aload_n 0, 1) := by decide +kernel
theorem dX1_init_1 : decode cX1_init 1 = .ok (.invokespecial 3, 3) := by decide +kernel
theorem dX1_init_4 : decode cX1_init 4 = .ok (.aload_n 0, 1) := by decide +kernel
theorem dX1_init_5 : decode cX1_init 5 = .ok (.iconst (-1), 1) := by decide +kernel
theorem dX1_init_6 : decode cX1_init 6 = .ok (.putfield 9, 3) := by decide +kernel
theorem dX1_init_9 : decode cX1_init 9 = .ok (.aload_n 0, 1) := by decide +kernel
theorem dX1_init_10 : decode cX1_init 10 = .ok (.iconst 0, 1) := by decide +kernel
theorem dX1_init_11 : decode cX1_init 11 = .ok (.putfield 15, 3) := by decide +kernel
theorem dX1_init_14 : decode cX1_init 14 = .ok (.aload_n 0, 1) := by decide +kernel
theorem dX1_init_15 : decode cX1_init 15 = .ok (.iconst (-1), 1) := by decide +kernel
theorem dX1_init_16 : decode cX1_init 16 = .ok (.putfield 18, 3) := by decide +kernel
theorem dX1_init_19 : decode cX1_init 19 = .ok (.aload_n 0, 1) := by decide +kernel
theorem dX1_init_20 : decode cX1_init 20 = .ok (.iconst (-1), 1) := by decide +kernel
theorem dX1_init_21 : decode cX1_init 21 = .ok (.putfield 21, 3) := by decide +kernel
theorem dX1_init_24 : decode cX1_init 24 = .ok (.aload_n 0, 1) := by decide +kernel
theorem dX1_init_25 : decode cX1_init 25 = .ok (.iload_n 1, 1) := by decide +kernel
theorem dX1_init_26 : decode cX1_init 26 = .ok (.putfield 24, 3) := by decide +kernel
theorem dX1_init_29 : decode cX1_init 29 = .ok (.aload_n 0, 1) := by decide +kernel
theorem dX1_init_30 : decode cX1_init 30 = .ok (.iload_n 2, 1) := by decide +kernel
theorem dX1_init_31 : decode cX1_init 31 = .ok (.putfield 27, 3) := by decide +kernel
theorem dX1_init_34 : decode cX1_init 34 = .ok (.return_, 1) := by decide +kernel
theorem dX1_crateNumber_0 : decode cX1_crateNumber 0 = .ok (.aload_n 0, 1) := by decide +kernel
theorem dX1_crateNumber_1 : decode cX1_crateNumber 1 = .ok (.getfield 30, 3) := by decide +kernel
theorem dX1_crateNumber_4 : decode cX1_crateNumber 4 = .ok (.ifnonnull 7, 3) := by decide +kernel
theorem dX1_crateNumber_7 : decode cX1_crateNumber 7 = .ok (.iconst (-1), 1) := by decide +kernel
theorem dX1_crateNumber_8 : decode cX1_crateNumber 8 = .ok (.goto 10, 3) := by decide +kernel
theorem dX1_crateNumber_11 : decode cX1_crateNumber 11 = .ok (.aload_n 0, 1) := by decide +kernel
theorem dX1_crateNumber_12 : decode cX1_crateNumber 12 = .ok (.getfield 30, 3) := by decide +kernel
theorem dX1_crateNumber_15 : decode cX1_crateNumber 15 = .ok (.getfield 34, 3) := by decide +kernel
theorem dX1_crateNumber_18 : decode cX1_crateNumber 18 = .ok (.ireturn, 1) := by decide +kernel
theorem dX1_isSealedIn_0 : decode cX1_isSealedIn 0 = .ok (.aload_n 0, 1) := by decide +kernel
theorem dX1_isSealedIn_1 : decode cX1_isSealedIn 1 = .ok (.getfield 30, 3) := by decide +kernel
theorem dX1_isSealedIn_4 : decode cX1_isSealedIn 4 = .ok (.ifnull 17, 3) := by decide +kernel
theorem dX1_isSealedIn_7 : decode cX1_isSealedIn 7 = .ok (.aload_n 0, 1) := by decide +kernel
theorem dX1_isSealedIn_8 : decode cX1_isSealedIn 8 = .ok (.getfield 30, 3) := by decide +kernel
theorem dX1_isSealedIn_11 : decode cX1_isSealedIn 11 = .ok (.invokevirtual 39, 3) := by decide +kernel
theorem dX1_isSealedIn_14 : decode cX1_isSealedIn 14 = .ok (.ifCond .eq 7, 3) := by decide +kernel
theorem dX1_isSealedIn_17 : decode cX1_isSealedIn 17 = .ok (.iconst 1, 1) := by decide +kernel
theorem dX1_isSealedIn_18 : decode cX1_isSealedIn 18 = .ok (.goto 4, 3) := by decide +kernel
theorem dX1_isSealedIn_21 : decode cX1_isSealedIn 21 = .ok (.iconst 0, 1) := by decide +kernel
theorem dX1_isSealedIn_22 : decode cX1_isSealedIn 22 = .ok (.ireturn, 1) := by decide +kernel
theorem dX1_isFinished_0 : decode cX1_isFinished 0 = .ok (.aload_n 0, 1) := by decide +kernel
theorem dX1_isFinished_1 : decode cX1_isFinished 1 = .ok (.getfield 15, 3) := by decide +kernel
theorem dX1_isFinished_4 : decode cX1_isFinished 4 = .ok (.iconst 3, 1) := by decide +kernel
theorem dX1_isFinished_5 : decode cX1_isFinished 5 = .ok (.if_icmp .eq 18, 3) := by decide +kernel
theorem dX1_isFinished_8 : decode cX1_isFinished 8 = .ok (.aload_n 0, 1) := by decide +kernel
theorem dX1_isFinished_9 : decode cX1_isFinished 9 = .ok (.getfield 15, 3) := by decide +kernel
theorem dX1_isFinished_12 : decode cX1_isFinished 12 = .ok (.iconst 1, 1) := by decide +kernel
theorem dX1_isFinished_13 : decode cX1_isFinished 13 = .ok (.if_icmp .ne 14, 3) := by decide +kernel
theorem dX1_isFinished_16 : decode cX1_isFinished 16 = .ok (.aload_n 0, 1) := by decide +kernel
theorem dX1_isFinished_17 : decode cX1_isFinished 17 = .ok (.getfield 43, 3) := by decide +kernel
theorem dX1_isFinished_20 : decode cX1_isFinished 20 = .ok (.ifCond .eq 7, 3) := by decide +kernel
theorem dX1_isFinished_23 : decode cX1_isFinished 23 = .ok (.iconst 1, 1) := by decide +kernel
theorem dX1_isFinished_24 : decode cX1_isFinished 24 = .ok (.goto 4, 3) := by decide +kernel
theorem dX1_isFinished_27 : decode cX1_isFinished 27 = .ok (.iconst 0, 1) := by decide +kernel
theorem dX1_isFinished_28 : decode cX1_isFinished 28 = .ok (.ireturn, 1) := by decide +kernel
theorem dX1_awaitsCertificate_0 : decode cX1_awaitsCertificate 0 = .ok (.aload_n 0, 1) := by decide +kernel
theorem dX1_awaitsCertificate_1 : decode cX1_awaitsCertificate 1 = .ok (.invokevirtual 47, 3) := by decide +kernel
theorem dX1_awaitsCertificate_4 : decode cX1_awaitsCertificate 4 = .ok (.ifCond .eq 22, 3) := by decide +kernel
theorem dX1_awaitsCertificate_7 : decode cX1_awaitsCertificate 7 = .ok (.aload_n 0, 1) := by decide +kernel
theorem dX1_awaitsCertificate_8 : decode cX1_awaitsCertificate 8 = .ok (.getfield 50, 3) := by decide +kernel
theorem dX1_awaitsCertificate_11 : decode cX1_awaitsCertificate 11 = .ok (.ifCond .ne 15, 3) := by decide +kernel
theorem dX1_awaitsCertificate_14 : decode cX1_awaitsCertificate 14 = .ok (.aload_n 0, 1) := by decide +kernel
theorem dX1_awaitsCertificate_15 : decode cX1_awaitsCertificate 15 = .ok (.getfield 21, 3) := by decide +kernel
theorem dX1_awaitsCertificate_18 : decode cX1_awaitsCertificate 18 = .ok (.iconst (-1), 1) := by decide +kernel
theorem dX1_awaitsCertificate_19 : decode cX1_awaitsCertificate 19 = .ok (.if_icmp .ne 7, 3) := by decide +kernel
theorem dX1_awaitsCertificate_22 : decode cX1_awaitsCertificate 22 = .ok (.iconst 1, 1) := by decide +kernel
theorem dX1_awaitsCertificate_23 : decode cX1_awaitsCertificate 23 = .ok (.goto 4, 3) := by decide +kernel
theorem dX1_awaitsCertificate_26 : decode cX1_awaitsCertificate 26 = .ok (.iconst 0, 1) := by decide +kernel
theorem dX1_awaitsCertificate_27 : decode cX1_awaitsCertificate 27 = .ok (.ireturn, 1) := by decide +kernel
theorem dX2_init_0 : decode cX2_init 0 = .ok (.aload_n 0, 1) := by decide +kernel
theorem dX2_init_1 : decode cX2_init 1 = .ok (.invokespecial 1, 3) := by decide +kernel
theorem dX2_init_4 : decode cX2_init 4 = .ok (.aload_n 0, 1) := by decide +kernel
theorem dX2_init_5 : decode cX2_init 5 = .ok (.bipush 60, 2) := by decide +kernel
theorem dX2_init_7 : decode cX2_init 7 = .ok (.anewarray 9, 3) := by decide +kernel
theorem dX2_init_10 : decode cX2_init 10 = .ok (.putfield 11, 3) := by decide +kernel
theorem dX2_init_13 : decode cX2_init 13 = .ok (.aload_n 0, 1) := by decide +kernel
theorem dX2_init_14 : decode cX2_init 14 = .ok (.bipush 10, 2) := by decide +kernel
theorem dX2_init_16 : decode cX2_init 16 = .ok (.anewarray 15, 3) := by decide +kernel
theorem dX2_init_19 : decode cX2_init 19 = .ok (.putfield 17, 3) := by decide +kernel
theorem dX2_init_22 : decode cX2_init 22 = .ok (.iconst 0, 1) := by decide +kernel
theorem dX2_init_23 : decode cX2_init 23 = .ok (.istore_n 1, 1) := by decide +kernel
theorem dX2_init_24 : decode cX2_init 24 = .ok (.iload_n 1, 1) := by decide +kernel
theorem dX2_init_25 : decode cX2_init 25 = .ok (.bipush 10, 2) := by decide +kernel
theorem dX2_init_27 : decode cX2_init 27 = .ok (.if_icmp .ge 23, 3) := by decide +kernel
theorem dX2_init_30 : decode cX2_init 30 = .ok (.aload_n 0, 1) := by decide +kernel
theorem dX2_init_31 : decode cX2_init 31 = .ok (.getfield 17, 3) := by decide +kernel
theorem dX2_init_34 : decode cX2_init 34 = .ok (.iload_n 1, 1) := by decide +kernel
theorem dX2_init_35 : decode cX2_init 35 = .ok (.new 15, 3) := by decide +kernel
theorem dX2_init_38 : decode cX2_init 38 = .ok (.dup, 1) := by decide +kernel
theorem dX2_init_39 : decode cX2_init 39 = .ok (.iload_n 1, 1) := by decide +kernel
theorem dX2_init_40 : decode cX2_init 40 = .ok (.invokespecial 21, 3) := by decide +kernel
theorem dX2_init_43 : decode cX2_init 43 = .ok (.aastore, 1) := by decide +kernel
theorem dX2_init_44 : decode cX2_init 44 = .ok (.iinc 1 1, 3) := by decide +kernel
theorem dX2_init_47 : decode cX2_init 47 = .ok (.goto (-23), 3) := by decide +kernel
theorem dX2_init_50 : decode cX2_init 50 = .ok (.return_, 1) := by decide +kernel
theorem dX2_bring_0 : decode cX2_bring 0 = .ok (.iload_n 3, 1) := by decide +kernel
theorem dX2_bring_1 : decode cX2_bring 1 = .ok (.invokestatic 24, 3) := by decide +kernel
theorem dX2_bring_4 : decode cX2_bring 4 = .ok (.iload_n 1, 1) := by decide +kernel
theorem dX2_bring_5 : decode cX2_bring 5 = .ok (.ifCond .lt 17, 3) := by decide +kernel
theorem dX2_bring_8 : decode cX2_bring 8 = .ok (.iload_n 1, 1) := by decide +kernel
theorem dX2_bring_9 : decode cX2_bring 9 = .ok (.iconst 3, 1) := by decide +kernel
theorem dX2_bring_10 : decode cX2_bring 10 = .ok (.if_icmp .ge 12, 3) := by decide +kernel
theorem dX2_bring_13 : decode cX2_bring 13 = .ok (.iload_n 2, 1) := by decide +kernel
theorem dX2_bring_14 : decode cX2_bring 14 = .ok (.ifCond .lt 8, 3) := by decide +kernel
theorem dX2_bring_17 : decode cX2_bring 17 = .ok (.iload_n 2, 1) := by decide +kernel
theorem dX2_bring_18 : decode cX2_bring 18 = .ok (.iconst 4, 1) := by decide +kernel
theorem dX2_bring_19 : decode cX2_bring 19 = .ok (.if_icmp .lt 13, 3) := by decide +kernel
theorem dX2_bring_22 : decode cX2_bring 22 = .ok (.new 27, 3) := by decide +kernel
theorem dX2_bring_25 : decode cX2_bring 25 = .ok (.dup, 1) := by decide +kernel
theorem dX2_bring_26 : decode cX2_bring 26 = .ok (.ldc 29, 2) := by decide +kernel
theorem dX2_bring_28 : decode cX2_bring 28 = .ok (.invokespecial 31, 3) := by decide +kernel
theorem dX2_bring_31 : decode cX2_bring 31 = .ok (.athrow, 1) := by decide +kernel
theorem dX2_bring_32 : decode cX2_bring 32 = .ok (.aload_n 0, 1) := by decide +kernel
theorem dX2_bring_33 : decode cX2_bring 33 = .ok (.getfield 34, 3) := by decide +kernel
theorem dX2_bring_36 : decode cX2_bring 36 = .ok (.ifCond .lt 15, 3) := by decide +kernel
theorem dX2_bring_39 : decode cX2_bring 39 = .ok (.aload_n 0, 1) := by decide +kernel
theorem dX2_bring_40 : decode cX2_bring 40 = .ok (.getfield 34, 3) := by decide +kernel
theorem dX2_bring_43 : decode cX2_bring 43 = .ok (.aload_n 0, 1) := by decide +kernel
theorem dX2_bring_44 : decode cX2_bring 44 = .ok (.getfield 11, 3) := by decide +kernel
theorem dX2_bring_47 : decode cX2_bring 47 = .ok (.arraylength, 1) := by decide +kernel
theorem dX2_bring_48 : decode cX2_bring 48 = .ok (.if_icmp .lt 13, 3) := by decide +kernel
theorem dX2_bring_51 : decode cX2_bring 51 = .ok (.new 38, 3) := by decide +kernel
theorem dX2_bring_54 : decode cX2_bring 54 = .ok (.dup, 1) := by decide +kernel
theorem dX2_bring_55 : decode cX2_bring 55 = .ok (.ldc 40, 2) := by decide +kernel
theorem dX2_bring_57 : decode cX2_bring 57 = .ok (.invokespecial 42, 3) := by decide +kernel
theorem dX2_bring_60 : decode cX2_bring 60 = .ok (.athrow, 1) := by decide +kernel
theorem dX2_bring_61 : decode cX2_bring 61 = .ok (.new 9, 3) := by decide +kernel
theorem dX2_bring_64 : decode cX2_bring 64 = .ok (.dup, 1) := by decide +kernel
theorem dX2_bring_65 : decode cX2_bring 65 = .ok (.iload_n 1, 1) := by decide +kernel
theorem dX2_bring_66 : decode cX2_bring 66 = .ok (.iload_n 2, 1) := by decide +kernel
theorem dX2_bring_67 : decode cX2_bring 67 = .ok (.invokespecial 43, 3) := by decide +kernel
theorem dX2_bring_70 : decode cX2_bring 70 = .ok (.astore 4, 2) := by decide +kernel
theorem dX2_bring_72 : decode cX2_bring 72 = .ok (.aload_n 0, 1) := by decide +kernel
theorem dX2_bring_73 : decode cX2_bring 73 = .ok (.getfield 34, 3) := by decide +kernel
theorem dX2_bring_76 : decode cX2_bring 76 = .ok (.istore 5, 2) := by decide +kernel
theorem dX2_bring_78 : decode cX2_bring 78 = .ok (.aload_n 0, 1) := by decide +kernel
theorem dX2_bring_79 : decode cX2_bring 79 = .ok (.getfield 11, 3) := by decide +kernel
theorem dX2_bring_82 : decode cX2_bring 82 = .ok (.iload 5, 2) := by decide +kernel
theorem dX2_bring_84 : decode cX2_bring 84 = .ok (.aload 4, 2) := by decide +kernel
theorem dX2_bring_86 : decode cX2_bring 86 = .ok (.aastore, 1) := by decide +kernel
theorem dX2_bring_87 : decode cX2_bring 87 = .ok (.aload_n 0, 1) := by decide +kernel
theorem dX2_bring_88 : decode cX2_bring 88 = .ok (.dup, 1) := by decide +kernel
theorem dX2_bring_89 : decode cX2_bring 89 = .ok (.getfield 34, 3) := by decide +kernel
theorem dX2_bring_92 : decode cX2_bring 92 = .ok (.iconst 1, 1) := by decide +kernel
theorem dX2_bring_93 : decode cX2_bring 93 = .ok (.iadd, 1) := by decide +kernel
theorem dX2_bring_94 : decode cX2_bring 94 = .ok (.putfield 34, 3) := by decide +kernel
theorem dX2_bring_97 : decode cX2_bring 97 = .ok (.aload_n 0, 1) := by decide +kernel
theorem dX2_bring_98 : decode cX2_bring 98 = .ok (.aload 4, 2) := by decide +kernel
theorem dX2_bring_100 : decode cX2_bring 100 = .ok (.iload_n 3, 1) := by decide +kernel
theorem dX2_bring_101 : decode cX2_bring 101 = .ok (.invokevirtual 46, 3) := by decide +kernel
theorem dX2_bring_104 : decode cX2_bring 104 = .ok (.iload 5, 2) := by decide +kernel
theorem dX2_bring_106 : decode cX2_bring 106 = .ok (.ireturn, 1) := by decide +kernel
theorem dX2_offer_0 : decode cX2_offer 0 = .ok (.aload_n 0, 1) := by decide +kernel
theorem dX2_offer_1 : decode cX2_offer 1 = .ok (.iload_n 1, 1) := by decide +kernel
theorem dX2_offer_2 : decode cX2_offer 2 = .ok (.invokevirtual 50, 3) := by decide +kernel
theorem dX2_offer_5 : decode cX2_offer 5 = .ok (.astore_n 3, 1) := by decide +kernel
theorem dX2_offer_6 : decode cX2_offer 6 = .ok (.iload_n 2, 1) := by decide +kernel
theorem dX2_offer_7 : decode cX2_offer 7 = .ok (.invokestatic 24, 3) := by decide +kernel
theorem dX2_offer_10 : decode cX2_offer 10 = .ok (.iload_n 2, 1) := by decide +kernel
theorem dX2_offer_11 : decode cX2_offer 11 = .ok (.aload_n 3, 1) := by decide +kernel
theorem dX2_offer_12 : decode cX2_offer 12 = .ok (.getfield 54, 3) := by decide +kernel
theorem dX2_offer_15 : decode cX2_offer 15 = .ok (.if_icmp .ne 13, 3) := by decide +kernel
theorem dX2_offer_18 : decode cX2_offer 18 = .ok (.new 27, 3) := by decide +kernel
theorem dX2_offer_21 : decode cX2_offer 21 = .ok (.dup, 1) := by decide +kernel
theorem dX2_offer_22 : decode cX2_offer 22 = .ok (.ldc 57, 2) := by decide +kernel
theorem dX2_offer_24 : decode cX2_offer 24 = .ok (.invokespecial 31, 3) := by decide +kernel
theorem dX2_offer_27 : decode cX2_offer 27 = .ok (.athrow, 1) := by decide +kernel
theorem dX2_offer_28 : decode cX2_offer 28 = .ok (.aload_n 3, 1) := by decide +kernel
theorem dX2_offer_29 : decode cX2_offer 29 = .ok (.invokestatic 59, 3) := by decide +kernel
theorem dX2_offer_32 : decode cX2_offer 32 = .ok (.aload_n 3, 1) := by decide +kernel
theorem dX2_offer_33 : decode cX2_offer 33 = .ok (.iload_n 2, 1) := by decide +kernel
theorem dX2_offer_34 : decode cX2_offer 34 = .ok (.putfield 63, 3) := by decide +kernel
theorem dX2_offer_37 : decode cX2_offer 37 = .ok (.aload_n 3, 1) := by decide +kernel
theorem dX2_offer_38 : decode cX2_offer 38 = .ok (.getfield 54, 3) := by decide +kernel
theorem dX2_offer_41 : decode cX2_offer 41 = .ok (.ireturn, 1) := by decide +kernel
theorem dX2_answer_0 : decode cX2_answer 0 = .ok (.aload_n 0, 1) := by decide +kernel
theorem dX2_answer_1 : decode cX2_answer 1 = .ok (.iload_n 1, 1) := by decide +kernel
theorem dX2_answer_2 : decode cX2_answer 2 = .ok (.invokevirtual 50, 3) := by decide +kernel
theorem dX2_answer_5 : decode cX2_answer 5 = .ok (.astore_n 3, 1) := by decide +kernel
theorem dX2_answer_6 : decode cX2_answer 6 = .ok (.aload_n 3, 1) := by decide +kernel
theorem dX2_answer_7 : decode cX2_answer 7 = .ok (.getfield 66, 3) := by decide +kernel
theorem dX2_answer_10 : decode cX2_answer 10 = .ok (.ifCond .ne 11, 3) := by decide +kernel
theorem dX2_answer_13 : decode cX2_answer 13 = .ok (.aload_n 3, 1) := by decide +kernel
theorem dX2_answer_14 : decode cX2_answer 14 = .ok (.getfield 63, 3) := by decide +kernel
theorem dX2_answer_17 : decode cX2_answer 17 = .ok (.iconst (-1), 1) := by decide +kernel
theorem dX2_answer_18 : decode cX2_answer 18 = .ok (.if_icmp .ne 13, 3) := by decide +kernel
theorem dX2_answer_21 : decode cX2_answer 21 = .ok (.new 38, 3) := by decide +kernel
theorem dX2_answer_24 : decode cX2_answer 24 = .ok (.dup, 1) := by decide +kernel
theorem dX2_answer_25 : decode cX2_answer 25 = .ok (.ldc 70, 2) := by decide +kernel
theorem dX2_answer_27 : decode cX2_answer 27 = .ok (.invokespecial 42, 3) := by decide +kernel
theorem dX2_answer_30 : decode cX2_answer 30 = .ok (.athrow, 1) := by decide +kernel
theorem dX2_answer_31 : decode cX2_answer 31 = .ok (.aload_n 3, 1) := by decide +kernel
theorem dX2_answer_32 : decode cX2_answer 32 = .ok (.getfield 63, 3) := by decide +kernel
theorem dX2_answer_35 : decode cX2_answer 35 = .ok (.istore 4, 2) := by decide +kernel
theorem dX2_answer_37 : decode cX2_answer 37 = .ok (.aload_n 3, 1) := by decide +kernel
theorem dX2_answer_38 : decode cX2_answer 38 = .ok (.iconst (-1), 1) := by decide +kernel
theorem dX2_answer_39 : decode cX2_answer 39 = .ok (.putfield 63, 3) := by decide +kernel
theorem dX2_answer_42 : decode cX2_answer 42 = .ok (.iload_n 2, 1) := by decide +kernel
theorem dX2_answer_43 : decode cX2_answer 43 = .ok (.ifCond .eq 10, 3) := by decide +kernel
theorem dX2_answer_46 : decode cX2_answer 46 = .ok (.aload_n 0, 1) := by decide +kernel
theorem dX2_answer_47 : decode cX2_answer 47 = .ok (.aload_n 3, 1) := by decide +kernel
theorem dX2_answer_48 : decode cX2_answer 48 = .ok (.iload 4, 2) := by decide +kernel
theorem dX2_answer_50 : decode cX2_answer 50 = .ok (.invokevirtual 46, 3) := by decide +kernel
theorem dX2_answer_53 : decode cX2_answer 53 = .ok (.aload_n 3, 1) := by decide +kernel
theorem dX2_answer_54 : decode cX2_answer 54 = .ok (.getfield 54, 3) := by decide +kernel
theorem dX2_answer_57 : decode cX2_answer 57 = .ok (.ireturn, 1) := by decide +kernel
theorem dX2_pack_0 : decode cX2_pack 0 = .ok (.aload_n 0, 1) := by decide +kernel
theorem dX2_pack_1 : decode cX2_pack 1 = .ok (.iload_n 1, 1) := by decide +kernel
theorem dX2_pack_2 : decode cX2_pack 2 = .ok (.invokevirtual 50, 3) := by decide +kernel
theorem dX2_pack_5 : decode cX2_pack 5 = .ok (.astore_n 3, 1) := by decide +kernel
theorem dX2_pack_6 : decode cX2_pack 6 = .ok (.aload_n 0, 1) := by decide +kernel
theorem dX2_pack_7 : decode cX2_pack 7 = .ok (.iload_n 2, 1) := by decide +kernel
theorem dX2_pack_8 : decode cX2_pack 8 = .ok (.invokevirtual 72, 3) := by decide +kernel
theorem dX2_pack_11 : decode cX2_pack 11 = .ok (.astore 4, 2) := by decide +kernel
theorem dX2_pack_13 : decode cX2_pack 13 = .ok (.aload_n 3, 1) := by decide +kernel
theorem dX2_pack_14 : decode cX2_pack 14 = .ok (.invokestatic 59, 3) := by decide +kernel
theorem dX2_pack_17 : decode cX2_pack 17 = .ok (.aload 4, 2) := by decide +kernel
theorem dX2_pack_19 : decode cX2_pack 19 = .ok (.invokevirtual 76, 3) := by decide +kernel
theorem dX2_pack_22 : decode cX2_pack 22 = .ok (.ifCond .ne 15, 3) := by decide +kernel
theorem dX2_pack_25 : decode cX2_pack 25 = .ok (.aload 4, 2) := by decide +kernel
theorem dX2_pack_27 : decode cX2_pack 27 = .ok (.getfield 80, 3) := by decide +kernel
theorem dX2_pack_30 : decode cX2_pack 30 = .ok (.aload_n 3, 1) := by decide +kernel
theorem dX2_pack_31 : decode cX2_pack 31 = .ok (.getfield 54, 3) := by decide +kernel
theorem dX2_pack_34 : decode cX2_pack 34 = .ok (.if_icmp .eq 13, 3) := by decide +kernel
theorem dX2_pack_37 : decode cX2_pack 37 = .ok (.new 38, 3) := by decide +kernel
theorem dX2_pack_40 : decode cX2_pack 40 = .ok (.dup, 1) := by decide +kernel
theorem dX2_pack_41 : decode cX2_pack 41 = .ok (.ldc 81, 2) := by decide +kernel
theorem dX2_pack_43 : decode cX2_pack 43 = .ok (.invokespecial 42, 3) := by decide +kernel
theorem dX2_pack_46 : decode cX2_pack 46 = .ok (.athrow, 1) := by decide +kernel
theorem dX2_pack_47 : decode cX2_pack 47 = .ok (.aload_n 3, 1) := by decide +kernel
theorem dX2_pack_48 : decode cX2_pack 48 = .ok (.aload 4, 2) := by decide +kernel
theorem dX2_pack_50 : decode cX2_pack 50 = .ok (.putfield 83, 3) := by decide +kernel
theorem dX2_pack_53 : decode cX2_pack 53 = .ok (.aload_n 0, 1) := by decide +kernel
theorem dX2_pack_54 : decode cX2_pack 54 = .ok (.aload 4, 2) := by decide +kernel
theorem dX2_pack_56 : decode cX2_pack 56 = .ok (.invokevirtual 87, 3) := by decide +kernel
theorem dX2_pack_59 : decode cX2_pack 59 = .ok (.ireturn, 1) := by decide +kernel
theorem dX2_unpack_0 : decode cX2_unpack 0 = .ok (.aload_n 0, 1) := by decide +kernel
theorem dX2_unpack_1 : decode cX2_unpack 1 = .ok (.iload_n 1, 1) := by decide +kernel
theorem dX2_unpack_2 : decode cX2_unpack 2 = .ok (.invokevirtual 50, 3) := by decide +kernel
theorem dX2_unpack_5 : decode cX2_unpack 5 = .ok (.astore_n 2, 1) := by decide +kernel
theorem dX2_unpack_6 : decode cX2_unpack 6 = .ok (.aload_n 2, 1) := by decide +kernel
theorem dX2_unpack_7 : decode cX2_unpack 7 = .ok (.getfield 83, 3) := by decide +kernel
theorem dX2_unpack_10 : decode cX2_unpack 10 = .ok (.astore_n 3, 1) := by decide +kernel
theorem dX2_unpack_11 : decode cX2_unpack 11 = .ok (.aload_n 2, 1) := by decide +kernel
theorem dX2_unpack_12 : decode cX2_unpack 12 = .ok (.getfield 66, 3) := by decide +kernel
theorem dX2_unpack_15 : decode cX2_unpack 15 = .ok (.ifCond .ne 14, 3) := by decide +kernel
theorem dX2_unpack_18 : decode cX2_unpack 18 = .ok (.aload_n 3, 1) := by decide +kernel
theorem dX2_unpack_19 : decode cX2_unpack 19 = .ok (.ifnull 10, 3) := by decide +kernel
theorem dX2_unpack_22 : decode cX2_unpack 22 = .ok (.aload_n 3, 1) := by decide +kernel
theorem dX2_unpack_23 : decode cX2_unpack 23 = .ok (.invokevirtual 76, 3) := by decide +kernel
theorem dX2_unpack_26 : decode cX2_unpack 26 = .ok (.ifCond .eq 13, 3) := by decide +kernel
theorem dX2_unpack_29 : decode cX2_unpack 29 = .ok (.new 38, 3) := by decide +kernel
theorem dX2_unpack_32 : decode cX2_unpack 32 = .ok (.dup, 1) := by decide +kernel
theorem dX2_unpack_33 : decode cX2_unpack 33 = .ok (.ldc 91, 2) := by decide +kernel
theorem dX2_unpack_35 : decode cX2_unpack 35 = .ok (.invokespecial 42, 3) := by decide +kernel
theorem dX2_unpack_38 : decode cX2_unpack 38 = .ok (.athrow, 1) := by decide +kernel
theorem dX2_unpack_39 : decode cX2_unpack 39 = .ok (.aload_n 2, 1) := by decide +kernel
theorem dX2_unpack_40 : decode cX2_unpack 40 = .ok (.aconst_null, 1) := by decide +kernel
theorem dX2_unpack_41 : decode cX2_unpack 41 = .ok (.putfield 83, 3) := by decide +kernel
theorem dX2_unpack_44 : decode cX2_unpack 44 = .ok (.aload_n 3, 1) := by decide +kernel
theorem dX2_unpack_45 : decode cX2_unpack 45 = .ok (.getfield 93, 3) := by decide +kernel
theorem dX2_unpack_48 : decode cX2_unpack 48 = .ok (.ireturn, 1) := by decide +kernel
theorem dX2_seal_0 : decode cX2_seal 0 = .ok (.aload_n 0, 1) := by decide +kernel
theorem dX2_seal_1 : decode cX2_seal 1 = .ok (.iload_n 1, 1) := by decide +kernel
theorem dX2_seal_2 : decode cX2_seal 2 = .ok (.invokevirtual 72, 3) := by decide +kernel
theorem dX2_seal_5 : decode cX2_seal 5 = .ok (.astore_n 2, 1) := by decide +kernel
theorem dX2_seal_6 : decode cX2_seal 6 = .ok (.aload_n 2, 1) := by decide +kernel
theorem dX2_seal_7 : decode cX2_seal 7 = .ok (.invokevirtual 76, 3) := by decide +kernel
theorem dX2_seal_10 : decode cX2_seal 10 = .ok (.ifCond .ne 12, 3) := by decide +kernel
theorem dX2_seal_13 : decode cX2_seal 13 = .ok (.aload_n 0, 1) := by decide +kernel
theorem dX2_seal_14 : decode cX2_seal 14 = .ok (.getfield 96, 3) := by decide +kernel
theorem dX2_seal_17 : decode cX2_seal 17 = .ok (.bipush 100, 2) := by decide +kernel
theorem dX2_seal_19 : decode cX2_seal 19 = .ok (.if_icmp .lt 13, 3) := by decide +kernel
theorem dX2_seal_22 : decode cX2_seal 22 = .ok (.new 38, 3) := by decide +kernel
theorem dX2_seal_25 : decode cX2_seal 25 = .ok (.dup, 1) := by decide +kernel
theorem dX2_seal_26 : decode cX2_seal 26 = .ok (.ldc 99, 2) := by decide +kernel
theorem dX2_seal_28 : decode cX2_seal 28 = .ok (.invokespecial 42, 3) := by decide +kernel
theorem dX2_seal_31 : decode cX2_seal 31 = .ok (.athrow, 1) := by decide +kernel
theorem dX2_seal_32 : decode cX2_seal 32 = .ok (.aload_n 2, 1) := by decide +kernel
theorem dX2_seal_33 : decode cX2_seal 33 = .ok (.aload_n 0, 1) := by decide +kernel
theorem dX2_seal_34 : decode cX2_seal 34 = .ok (.getfield 96, 3) := by decide +kernel
theorem dX2_seal_37 : decode cX2_seal 37 = .ok (.putfield 101, 3) := by decide +kernel
theorem dX2_seal_40 : decode cX2_seal 40 = .ok (.aload_n 2, 1) := by decide +kernel
theorem dX2_seal_41 : decode cX2_seal 41 = .ok (.aload_n 0, 1) := by decide +kernel
theorem dX2_seal_42 : decode cX2_seal 42 = .ok (.aload_n 2, 1) := by decide +kernel
theorem dX2_seal_43 : decode cX2_seal 43 = .ok (.invokevirtual 87, 3) := by decide +kernel
theorem dX2_seal_46 : decode cX2_seal 46 = .ok (.putfield 104, 3) := by decide +kernel
theorem dX2_seal_49 : decode cX2_seal 49 = .ok (.aload_n 0, 1) := by decide +kernel
theorem dX2_seal_50 : decode cX2_seal 50 = .ok (.dup, 1) := by decide +kernel
theorem dX2_seal_51 : decode cX2_seal 51 = .ok (.getfield 96, 3) := by decide +kernel
theorem dX2_seal_54 : decode cX2_seal 54 = .ok (.iconst 1, 1) := by decide +kernel
theorem dX2_seal_55 : decode cX2_seal 55 = .ok (.iadd, 1) := by decide +kernel
theorem dX2_seal_56 : decode cX2_seal 56 = .ok (.putfield 96, 3) := by decide +kernel
theorem dX2_seal_59 : decode cX2_seal 59 = .ok (.aload_n 2, 1) := by decide +kernel
theorem dX2_seal_60 : decode cX2_seal 60 = .ok (.getfield 101, 3) := by decide +kernel
theorem dX2_seal_63 : decode cX2_seal 63 = .ok (.ireturn, 1) := by decide +kernel
theorem dX2_open_0 : decode cX2_open 0 = .ok (.aload_n 0, 1) := by decide +kernel
theorem dX2_open_1 : decode cX2_open 1 = .ok (.iload_n 1, 1) := by decide +kernel
theorem dX2_open_2 : decode cX2_open 2 = .ok (.invokevirtual 72, 3) := by decide +kernel
theorem dX2_open_5 : decode cX2_open 5 = .ok (.astore_n 3, 1) := by decide +kernel
theorem dX2_open_6 : decode cX2_open 6 = .ok (.iload_n 2, 1) := by decide +kernel
theorem dX2_open_7 : decode cX2_open 7 = .ok (.ifCond .lt 9, 3) := by decide +kernel
theorem dX2_open_10 : decode cX2_open 10 = .ok (.iload_n 2, 1) := by decide +kernel
theorem dX2_open_11 : decode cX2_open 11 = .ok (.bipush 99, 2) := by decide +kernel
theorem dX2_open_13 : decode cX2_open 13 = .ok (.if_icmp .le 13, 3) := by decide +kernel
theorem dX2_open_16 : decode cX2_open 16 = .ok (.new 27, 3) := by decide +kernel
theorem dX2_open_19 : decode cX2_open 19 = .ok (.dup, 1) := by decide +kernel
theorem dX2_open_20 : decode cX2_open 20 = .ok (.ldc 107, 2) := by decide +kernel
theorem dX2_open_22 : decode cX2_open 22 = .ok (.invokespecial 31, 3) := by decide +kernel
theorem dX2_open_25 : decode cX2_open 25 = .ok (.athrow, 1) := by decide +kernel
theorem dX2_open_26 : decode cX2_open 26 = .ok (.aload_n 3, 1) := by decide +kernel
theorem dX2_open_27 : decode cX2_open 27 = .ok (.invokevirtual 76, 3) := by decide +kernel
theorem dX2_open_30 : decode cX2_open 30 = .ok (.ifCond .ne 13, 3) := by decide +kernel
theorem dX2_open_33 : decode cX2_open 33 = .ok (.new 38, 3) := by decide +kernel
theorem dX2_open_36 : decode cX2_open 36 = .ok (.dup, 1) := by decide +kernel
theorem dX2_open_37 : decode cX2_open 37 = .ok (.ldc 109, 2) := by decide +kernel
theorem dX2_open_39 : decode cX2_open 39 = .ok (.invokespecial 42, 3) := by decide +kernel
theorem dX2_open_42 : decode cX2_open 42 = .ok (.athrow, 1) := by decide +kernel
theorem dX2_open_43 : decode cX2_open 43 = .ok (.iload_n 2, 1) := by decide +kernel
theorem dX2_open_44 : decode cX2_open 44 = .ok (.aload_n 3, 1) := by decide +kernel
theorem dX2_open_45 : decode cX2_open 45 = .ok (.getfield 104, 3) := by decide +kernel
theorem dX2_open_48 : decode cX2_open 48 = .ok (.isub, 1) := by decide +kernel
theorem dX2_open_49 : decode cX2_open 49 = .ok (.istore 4, 2) := by decide +kernel
theorem dX2_open_51 : decode cX2_open 51 = .ok (.aload_n 3, 1) := by decide +kernel
theorem dX2_open_52 : decode cX2_open 52 = .ok (.iconst (-1), 1) := by decide +kernel
theorem dX2_open_53 : decode cX2_open 53 = .ok (.putfield 101, 3) := by decide +kernel
theorem dX2_open_56 : decode cX2_open 56 = .ok (.iload 4, 2) := by decide +kernel
theorem dX2_open_58 : decode cX2_open 58 = .ok (.ifCond .eq 13, 3) := by decide +kernel
theorem dX2_open_61 : decode cX2_open 61 = .ok (.aload_n 0, 1) := by decide +kernel
theorem dX2_open_62 : decode cX2_open 62 = .ok (.dup, 1) := by decide +kernel
theorem dX2_open_63 : decode cX2_open 63 = .ok (.getfield 111, 3) := by decide +kernel
theorem dX2_open_66 : decode cX2_open 66 = .ok (.iconst 1, 1) := by decide +kernel
theorem dX2_open_67 : decode cX2_open 67 = .ok (.iadd, 1) := by decide +kernel
theorem dX2_open_68 : decode cX2_open 68 = .ok (.putfield 111, 3) := by decide +kernel
theorem dX2_open_71 : decode cX2_open 71 = .ok (.iload 4, 2) := by decide +kernel
theorem dX2_open_73 : decode cX2_open 73 = .ok (.ireturn, 1) := by decide +kernel
theorem dX2_carry_0 : decode cX2_carry 0 = .ok (.aload_n 0, 1) := by decide +kernel
theorem dX2_carry_1 : decode cX2_carry 1 = .ok (.iload_n 1, 1) := by decide +kernel
theorem dX2_carry_2 : decode cX2_carry 2 = .ok (.invokevirtual 72, 3) := by decide +kernel
theorem dX2_carry_5 : decode cX2_carry 5 = .ok (.astore_n 3, 1) := by decide +kernel
theorem dX2_carry_6 : decode cX2_carry 6 = .ok (.iload_n 2, 1) := by decide +kernel
theorem dX2_carry_7 : decode cX2_carry 7 = .ok (.invokestatic 24, 3) := by decide +kernel
theorem dX2_carry_10 : decode cX2_carry 10 = .ok (.iload_n 2, 1) := by decide +kernel
theorem dX2_carry_11 : decode cX2_carry 11 = .ok (.aload_n 3, 1) := by decide +kernel
theorem dX2_carry_12 : decode cX2_carry 12 = .ok (.getfield 80, 3) := by decide +kernel
theorem dX2_carry_15 : decode cX2_carry 15 = .ok (.if_icmp .ne 13, 3) := by decide +kernel
theorem dX2_carry_18 : decode cX2_carry 18 = .ok (.new 27, 3) := by decide +kernel
theorem dX2_carry_21 : decode cX2_carry 21 = .ok (.dup, 1) := by decide +kernel
theorem dX2_carry_22 : decode cX2_carry 22 = .ok (.ldc 114, 2) := by decide +kernel
theorem dX2_carry_24 : decode cX2_carry 24 = .ok (.invokespecial 31, 3) := by decide +kernel
theorem dX2_carry_27 : decode cX2_carry 27 = .ok (.athrow, 1) := by decide +kernel
theorem dX2_carry_28 : decode cX2_carry 28 = .ok (.aload_n 3, 1) := by decide +kernel
theorem dX2_carry_29 : decode cX2_carry 29 = .ok (.invokevirtual 76, 3) := by decide +kernel
theorem dX2_carry_32 : decode cX2_carry 32 = .ok (.ifCond .ne 21, 3) := by decide +kernel
theorem dX2_carry_35 : decode cX2_carry 35 = .ok (.aload_n 0, 1) := by decide +kernel
theorem dX2_carry_36 : decode cX2_carry 36 = .ok (.aload_n 3, 1) := by decide +kernel
theorem dX2_carry_37 : decode cX2_carry 37 = .ok (.invokevirtual 87, 3) := by decide +kernel
theorem dX2_carry_40 : decode cX2_carry 40 = .ok (.ifCond .le 13, 3) := by decide +kernel
theorem dX2_carry_43 : decode cX2_carry 43 = .ok (.new 38, 3) := by decide +kernel
theorem dX2_carry_46 : decode cX2_carry 46 = .ok (.dup, 1) := by decide +kernel
theorem dX2_carry_47 : decode cX2_carry 47 = .ok (.ldc 116, 2) := by decide +kernel
theorem dX2_carry_49 : decode cX2_carry 49 = .ok (.invokespecial 42, 3) := by decide +kernel
theorem dX2_carry_52 : decode cX2_carry 52 = .ok (.athrow, 1) := by decide +kernel
theorem dX2_carry_53 : decode cX2_carry 53 = .ok (.aload_n 3, 1) := by decide +kernel
theorem dX2_carry_54 : decode cX2_carry 54 = .ok (.getfield 80, 3) := by decide +kernel
theorem dX2_carry_57 : decode cX2_carry 57 = .ok (.istore 4, 2) := by decide +kernel
theorem dX2_carry_59 : decode cX2_carry 59 = .ok (.aload_n 3, 1) := by decide +kernel
theorem dX2_carry_60 : decode cX2_carry 60 = .ok (.iload_n 2, 1) := by decide +kernel
theorem dX2_carry_61 : decode cX2_carry 61 = .ok (.putfield 80, 3) := by decide +kernel
theorem dX2_carry_64 : decode cX2_carry 64 = .ok (.aload_n 0, 1) := by decide +kernel
theorem dX2_carry_65 : decode cX2_carry 65 = .ok (.aload_n 3, 1) := by decide +kernel
theorem dX2_carry_66 : decode cX2_carry 66 = .ok (.invokevirtual 118, 3) := by decide +kernel
theorem dX2_carry_69 : decode cX2_carry 69 = .ok (.iload 4, 2) := by decide +kernel
theorem dX2_carry_71 : decode cX2_carry 71 = .ok (.ireturn, 1) := by decide +kernel
theorem dX2_wipe_0 : decode cX2_wipe 0 = .ok (.aload_n 0, 1) := by decide +kernel
theorem dX2_wipe_1 : decode cX2_wipe 1 = .ok (.iload_n 1, 1) := by decide +kernel
theorem dX2_wipe_2 : decode cX2_wipe 2 = .ok (.invokevirtual 50, 3) := by decide +kernel
theorem dX2_wipe_5 : decode cX2_wipe 5 = .ok (.astore 4, 2) := by decide +kernel
theorem dX2_wipe_7 : decode cX2_wipe 7 = .ok (.iload_n 3, 1) := by decide +kernel
theorem dX2_wipe_8 : decode cX2_wipe 8 = .ok (.invokestatic 24, 3) := by decide +kernel
theorem dX2_wipe_11 : decode cX2_wipe 11 = .ok (.iload_n 2, 1) := by decide +kernel
theorem dX2_wipe_12 : decode cX2_wipe 12 = .ok (.ifCond .lt 8, 3) := by decide +kernel
theorem dX2_wipe_15 : decode cX2_wipe 15 = .ok (.iload_n 2, 1) := by decide +kernel
theorem dX2_wipe_16 : decode cX2_wipe 16 = .ok (.iconst 3, 1) := by decide +kernel
theorem dX2_wipe_17 : decode cX2_wipe 17 = .ok (.if_icmp .lt 13, 3) := by decide +kernel
theorem dX2_wipe_20 : decode cX2_wipe 20 = .ok (.new 27, 3) := by decide +kernel
theorem dX2_wipe_23 : decode cX2_wipe 23 = .ok (.dup, 1) := by decide +kernel
theorem dX2_wipe_24 : decode cX2_wipe 24 = .ok (.ldc 122, 2) := by decide +kernel
theorem dX2_wipe_26 : decode cX2_wipe 26 = .ok (.invokespecial 31, 3) := by decide +kernel
theorem dX2_wipe_29 : decode cX2_wipe 29 = .ok (.athrow, 1) := by decide +kernel
theorem dX2_wipe_30 : decode cX2_wipe 30 = .ok (.aload 4, 2) := by decide +kernel
theorem dX2_wipe_32 : decode cX2_wipe 32 = .ok (.iload_n 3, 1) := by decide +kernel
theorem dX2_wipe_33 : decode cX2_wipe 33 = .ok (.invokestatic 124, 3) := by decide +kernel
theorem dX2_wipe_36 : decode cX2_wipe 36 = .ok (.aload 4, 2) := by decide +kernel
theorem dX2_wipe_38 : decode cX2_wipe 38 = .ok (.invokestatic 127, 3) := by decide +kernel
theorem dX2_wipe_41 : decode cX2_wipe 41 = .ok (.aload 4, 2) := by decide +kernel
theorem dX2_wipe_43 : decode cX2_wipe 43 = .ok (.getfield 130, 3) := by decide +kernel
theorem dX2_wipe_46 : decode cX2_wipe 46 = .ok (.iconst 1, 1) := by decide +kernel
theorem dX2_wipe_47 : decode cX2_wipe 47 = .ok (.if_icmp .eq 12, 3) := by decide +kernel
theorem dX2_wipe_50 : decode cX2_wipe 50 = .ok (.aload 4, 2) := by decide +kernel
theorem dX2_wipe_52 : decode cX2_wipe 52 = .ok (.getfield 130, 3) := by decide +kernel
theorem dX2_wipe_55 : decode cX2_wipe 55 = .ok (.iconst 3, 1) := by decide +kernel
theorem dX2_wipe_56 : decode cX2_wipe 56 = .ok (.if_icmp .ne 13, 3) := by decide +kernel
theorem dX2_wipe_59 : decode cX2_wipe 59 = .ok (.new 38, 3) := by decide +kernel
theorem dX2_wipe_62 : decode cX2_wipe 62 = .ok (.dup, 1) := by decide +kernel
theorem dX2_wipe_63 : decode cX2_wipe 63 = .ok (.ldc 133, 2) := by decide +kernel
theorem dX2_wipe_65 : decode cX2_wipe 65 = .ok (.invokespecial 42, 3) := by decide +kernel
theorem dX2_wipe_68 : decode cX2_wipe 68 = .ok (.athrow, 1) := by decide +kernel
theorem dX2_wipe_69 : decode cX2_wipe 69 = .ok (.iload_n 2, 1) := by decide +kernel
theorem dX2_wipe_70 : decode cX2_wipe 70 = .ok (.aload 4, 2) := by decide +kernel
theorem dX2_wipe_72 : decode cX2_wipe 72 = .ok (.getfield 135, 3) := by decide +kernel
theorem dX2_wipe_75 : decode cX2_wipe 75 = .ok (.if_icmp .ne 16, 3) := by decide +kernel
theorem dX2_wipe_78 : decode cX2_wipe 78 = .ok (.aload 4, 2) := by decide +kernel
theorem dX2_wipe_80 : decode cX2_wipe 80 = .ok (.getfield 138, 3) := by decide +kernel
theorem dX2_wipe_83 : decode cX2_wipe 83 = .ok (.iconst 3, 1) := by decide +kernel
theorem dX2_wipe_84 : decode cX2_wipe 84 = .ok (.if_icmp .ge 7, 3) := by decide +kernel
theorem dX2_wipe_87 : decode cX2_wipe 87 = .ok (.iconst 1, 1) := by decide +kernel
theorem dX2_wipe_88 : decode cX2_wipe 88 = .ok (.goto 4, 3) := by decide +kernel
theorem dX2_wipe_91 : decode cX2_wipe 91 = .ok (.iconst 0, 1) := by decide +kernel
theorem dX2_wipe_92 : decode cX2_wipe 92 = .ok (.istore 5, 2) := by decide +kernel
theorem dX2_wipe_94 : decode cX2_wipe 94 = .ok (.aload 4, 2) := by decide +kernel
theorem dX2_wipe_96 : decode cX2_wipe 96 = .ok (.iload 5, 2) := by decide +kernel
theorem dX2_wipe_98 : decode cX2_wipe 98 = .ok (.ifCond .eq 7, 3) := by decide +kernel
theorem dX2_wipe_101 : decode cX2_wipe 101 = .ok (.iconst 1, 1) := by decide +kernel
theorem dX2_wipe_102 : decode cX2_wipe 102 = .ok (.goto 4, 3) := by decide +kernel
theorem dX2_wipe_105 : decode cX2_wipe 105 = .ok (.iconst 2, 1) := by decide +kernel
theorem dX2_wipe_106 : decode cX2_wipe 106 = .ok (.putfield 130, 3) := by decide +kernel
theorem dX2_wipe_109 : decode cX2_wipe 109 = .ok (.aload 4, 2) := by decide +kernel
theorem dX2_wipe_111 : decode cX2_wipe 111 = .ok (.aload 4, 2) := by decide +kernel
theorem dX2_wipe_113 : decode cX2_wipe 113 = .ok (.getfield 54, 3) := by decide +kernel
theorem dX2_wipe_116 : decode cX2_wipe 116 = .ok (.putfield 141, 3) := by decide +kernel
theorem dX2_wipe_119 : decode cX2_wipe 119 = .ok (.aload 4, 2) := by decide +kernel
theorem dX2_wipe_121 : decode cX2_wipe 121 = .ok (.iconst 0, 1) := by decide +kernel
theorem dX2_wipe_122 : decode cX2_wipe 122 = .ok (.putfield 144, 3) := by decide +kernel
theorem dX2_wipe_125 : decode cX2_wipe 125 = .ok (.aload 4, 2) := by decide +kernel
theorem dX2_wipe_127 : decode cX2_wipe 127 = .ok (.getfield 130, 3) := by decide +kernel
theorem dX2_wipe_130 : decode cX2_wipe 130 = .ok (.ireturn, 1) := by decide +kernel
theorem dX2_smash_0 : decode cX2_smash 0 = .ok (.aload_n 0, 1) := by decide +kernel
theorem dX2_smash_1 : decode cX2_smash 1 = .ok (.iload_n 1, 1) := by decide +kernel
theorem dX2_smash_2 : decode cX2_smash 2 = .ok (.invokevirtual 50, 3) := by decide +kernel
theorem dX2_smash_5 : decode cX2_smash 5 = .ok (.astore_n 3, 1) := by decide +kernel
theorem dX2_smash_6 : decode cX2_smash 6 = .ok (.iload_n 2, 1) := by decide +kernel
theorem dX2_smash_7 : decode cX2_smash 7 = .ok (.invokestatic 24, 3) := by decide +kernel
theorem dX2_smash_10 : decode cX2_smash 10 = .ok (.aload_n 3, 1) := by decide +kernel
theorem dX2_smash_11 : decode cX2_smash 11 = .ok (.iload_n 2, 1) := by decide +kernel
theorem dX2_smash_12 : decode cX2_smash 12 = .ok (.invokestatic 124, 3) := by decide +kernel
theorem dX2_smash_15 : decode cX2_smash 15 = .ok (.aload_n 3, 1) := by decide +kernel
theorem dX2_smash_16 : decode cX2_smash 16 = .ok (.invokestatic 127, 3) := by decide +kernel
theorem dX2_smash_19 : decode cX2_smash 19 = .ok (.aload_n 3, 1) := by decide +kernel
theorem dX2_smash_20 : decode cX2_smash 20 = .ok (.getfield 130, 3) := by decide +kernel
theorem dX2_smash_23 : decode cX2_smash 23 = .ok (.iconst 3, 1) := by decide +kernel
theorem dX2_smash_24 : decode cX2_smash 24 = .ok (.if_icmp .ne 13, 3) := by decide +kernel
theorem dX2_smash_27 : decode cX2_smash 27 = .ok (.new 38, 3) := by decide +kernel
theorem dX2_smash_30 : decode cX2_smash 30 = .ok (.dup, 1) := by decide +kernel
theorem dX2_smash_31 : decode cX2_smash 31 = .ok (.ldc 147, 2) := by decide +kernel
theorem dX2_smash_33 : decode cX2_smash 33 = .ok (.invokespecial 42, 3) := by decide +kernel
theorem dX2_smash_36 : decode cX2_smash 36 = .ok (.athrow, 1) := by decide +kernel
theorem dX2_smash_37 : decode cX2_smash 37 = .ok (.aload_n 3, 1) := by decide +kernel
theorem dX2_smash_38 : decode cX2_smash 38 = .ok (.getfield 130, 3) := by decide +kernel
theorem dX2_smash_41 : decode cX2_smash 41 = .ok (.istore 4, 2) := by decide +kernel
theorem dX2_smash_43 : decode cX2_smash 43 = .ok (.aload_n 3, 1) := by decide +kernel
theorem dX2_smash_44 : decode cX2_smash 44 = .ok (.iconst 3, 1) := by decide +kernel
theorem dX2_smash_45 : decode cX2_smash 45 = .ok (.putfield 130, 3) := by decide +kernel
theorem dX2_smash_48 : decode cX2_smash 48 = .ok (.iload 4, 2) := by decide +kernel
theorem dX2_smash_50 : decode cX2_smash 50 = .ok (.ireturn, 1) := by decide +kernel
theorem dX2_check_0 : decode cX2_check 0 = .ok (.aload_n 0, 1) := by decide +kernel
theorem dX2_check_1 : decode cX2_check 1 = .ok (.iload_n 1, 1) := by decide +kernel
theorem dX2_check_2 : decode cX2_check 2 = .ok (.invokevirtual 50, 3) := by decide +kernel
theorem dX2_check_5 : decode cX2_check 5 = .ok (.astore 4, 2) := by decide +kernel
theorem dX2_check_7 : decode cX2_check 7 = .ok (.iload_n 2, 1) := by decide +kernel
theorem dX2_check_8 : decode cX2_check 8 = .ok (.invokestatic 24, 3) := by decide +kernel
theorem dX2_check_11 : decode cX2_check 11 = .ok (.aload 4, 2) := by decide +kernel
theorem dX2_check_13 : decode cX2_check 13 = .ok (.getfield 130, 3) := by decide +kernel
theorem dX2_check_16 : decode cX2_check 16 = .ok (.iconst 1, 1) := by decide +kernel
theorem dX2_check_17 : decode cX2_check 17 = .ok (.if_icmp .ne 22, 3) := by decide +kernel
theorem dX2_check_20 : decode cX2_check 20 = .ok (.iload_n 2, 1) := by decide +kernel
theorem dX2_check_21 : decode cX2_check 21 = .ok (.aload 4, 2) := by decide +kernel
theorem dX2_check_23 : decode cX2_check 23 = .ok (.getfield 141, 3) := by decide +kernel
theorem dX2_check_26 : decode cX2_check 26 = .ok (.if_icmp .ne 13, 3) := by decide +kernel
theorem dX2_check_29 : decode cX2_check 29 = .ok (.new 27, 3) := by decide +kernel
theorem dX2_check_32 : decode cX2_check 32 = .ok (.dup, 1) := by decide +kernel
theorem dX2_check_33 : decode cX2_check 33 = .ok (.ldc 149, 2) := by decide +kernel
theorem dX2_check_35 : decode cX2_check 35 = .ok (.invokespecial 31, 3) := by decide +kernel
theorem dX2_check_38 : decode cX2_check 38 = .ok (.athrow, 1) := by decide +kernel
theorem dX2_check_39 : decode cX2_check 39 = .ok (.aload 4, 2) := by decide +kernel
theorem dX2_check_41 : decode cX2_check 41 = .ok (.invokestatic 127, 3) := by decide +kernel
theorem dX2_check_44 : decode cX2_check 44 = .ok (.aload 4, 2) := by decide +kernel
theorem dX2_check_46 : decode cX2_check 46 = .ok (.getfield 130, 3) := by decide +kernel
theorem dX2_check_49 : decode cX2_check 49 = .ok (.iconst 1, 1) := by decide +kernel
theorem dX2_check_50 : decode cX2_check 50 = .ok (.if_icmp .eq 13, 3) := by decide +kernel
theorem dX2_check_53 : decode cX2_check 53 = .ok (.new 38, 3) := by decide +kernel
theorem dX2_check_56 : decode cX2_check 56 = .ok (.dup, 1) := by decide +kernel
theorem dX2_check_57 : decode cX2_check 57 = .ok (.ldc 151, 2) := by decide +kernel
theorem dX2_check_59 : decode cX2_check 59 = .ok (.invokespecial 42, 3) := by decide +kernel
theorem dX2_check_62 : decode cX2_check 62 = .ok (.athrow, 1) := by decide +kernel
theorem dX2_check_63 : decode cX2_check 63 = .ok (.aload 4, 2) := by decide +kernel
theorem dX2_check_65 : decode cX2_check 65 = .ok (.iload_n 3, 1) := by decide +kernel
theorem dX2_check_66 : decode cX2_check 66 = .ok (.putfield 144, 3) := by decide +kernel
theorem dX2_check_69 : decode cX2_check 69 = .ok (.iload_n 3, 1) := by decide +kernel
theorem dX2_check_70 : decode cX2_check 70 = .ok (.ifCond .ne 9, 3) := by decide +kernel
theorem dX2_check_73 : decode cX2_check 73 = .ok (.aload 4, 2) := by decide +kernel
theorem dX2_check_75 : decode cX2_check 75 = .ok (.iconst 2, 1) := by decide +kernel
theorem dX2_check_76 : decode cX2_check 76 = .ok (.putfield 130, 3) := by decide +kernel
theorem dX2_check_79 : decode cX2_check 79 = .ok (.aload 4, 2) := by decide +kernel
theorem dX2_check_81 : decode cX2_check 81 = .ok (.getfield 130, 3) := by decide +kernel
theorem dX2_check_84 : decode cX2_check 84 = .ok (.ireturn, 1) := by decide +kernel
theorem dX2_lose_0 : decode cX2_lose 0 = .ok (.aload_n 0, 1) := by decide +kernel
theorem dX2_lose_1 : decode cX2_lose 1 = .ok (.iload_n 1, 1) := by decide +kernel
theorem dX2_lose_2 : decode cX2_lose 2 = .ok (.invokevirtual 50, 3) := by decide +kernel
theorem dX2_lose_5 : decode cX2_lose 5 = .ok (.astore_n 2, 1) := by decide +kernel
theorem dX2_lose_6 : decode cX2_lose 6 = .ok (.aload_n 2, 1) := by decide +kernel
theorem dX2_lose_7 : decode cX2_lose 7 = .ok (.getfield 66, 3) := by decide +kernel
theorem dX2_lose_10 : decode cX2_lose 10 = .ok (.ifCond .eq 13, 3) := by decide +kernel
theorem dX2_lose_13 : decode cX2_lose 13 = .ok (.new 38, 3) := by decide +kernel
theorem dX2_lose_16 : decode cX2_lose 16 = .ok (.dup, 1) := by decide +kernel
theorem dX2_lose_17 : decode cX2_lose 17 = .ok (.ldc 153, 2) := by decide +kernel
theorem dX2_lose_19 : decode cX2_lose 19 = .ok (.invokespecial 42, 3) := by decide +kernel
theorem dX2_lose_22 : decode cX2_lose 22 = .ok (.athrow, 1) := by decide +kernel
theorem dX2_lose_23 : decode cX2_lose 23 = .ok (.aload_n 2, 1) := by decide +kernel
theorem dX2_lose_24 : decode cX2_lose 24 = .ok (.iconst 1, 1) := by decide +kernel
theorem dX2_lose_25 : decode cX2_lose 25 = .ok (.putfield 66, 3) := by decide +kernel
theorem dX2_lose_28 : decode cX2_lose 28 = .ok (.aload_n 2, 1) := by decide +kernel
theorem dX2_lose_29 : decode cX2_lose 29 = .ok (.iconst (-1), 1) := by decide +kernel
theorem dX2_lose_30 : decode cX2_lose 30 = .ok (.putfield 63, 3) := by decide +kernel
theorem dX2_lose_33 : decode cX2_lose 33 = .ok (.aload_n 2, 1) := by decide +kernel
theorem dX2_lose_34 : decode cX2_lose 34 = .ok (.getfield 54, 3) := by decide +kernel
theorem dX2_lose_37 : decode cX2_lose 37 = .ok (.ireturn, 1) := by decide +kernel
theorem dX2_find_0 : decode cX2_find 0 = .ok (.aload_n 0, 1) := by decide +kernel
theorem dX2_find_1 : decode cX2_find 1 = .ok (.iload_n 1, 1) := by decide +kernel
theorem dX2_find_2 : decode cX2_find 2 = .ok (.invokevirtual 50, 3) := by decide +kernel
theorem dX2_find_5 : decode cX2_find 5 = .ok (.astore_n 2, 1) := by decide +kernel
theorem dX2_find_6 : decode cX2_find 6 = .ok (.aload_n 2, 1) := by decide +kernel
theorem dX2_find_7 : decode cX2_find 7 = .ok (.getfield 66, 3) := by decide +kernel
theorem dX2_find_10 : decode cX2_find 10 = .ok (.ifCond .ne 13, 3) := by decide +kernel
theorem dX2_find_13 : decode cX2_find 13 = .ok (.new 38, 3) := by decide +kernel
theorem dX2_find_16 : decode cX2_find 16 = .ok (.dup, 1) := by decide +kernel
theorem dX2_find_17 : decode cX2_find 17 = .ok (.ldc 155, 2) := by decide +kernel
theorem dX2_find_19 : decode cX2_find 19 = .ok (.invokespecial 42, 3) := by decide +kernel
theorem dX2_find_22 : decode cX2_find 22 = .ok (.athrow, 1) := by decide +kernel
theorem dX2_find_23 : decode cX2_find 23 = .ok (.aload_n 2, 1) := by decide +kernel
theorem dX2_find_24 : decode cX2_find 24 = .ok (.iconst 0, 1) := by decide +kernel
theorem dX2_find_25 : decode cX2_find 25 = .ok (.putfield 66, 3) := by decide +kernel
theorem dX2_find_28 : decode cX2_find 28 = .ok (.aload_n 2, 1) := by decide +kernel
theorem dX2_find_29 : decode cX2_find 29 = .ok (.invokevirtual 157, 3) := by decide +kernel
theorem dX2_find_32 : decode cX2_find 32 = .ok (.ireturn, 1) := by decide +kernel
theorem dX2_certify_0 : decode cX2_certify 0 = .ok (.iload_n 1, 1) := by decide +kernel
theorem dX2_certify_1 : decode cX2_certify 1 = .ok (.invokestatic 24, 3) := by decide +kernel
theorem dX2_certify_4 : decode cX2_certify 4 = .ok (.iconst 0, 1) := by decide +kernel
theorem dX2_certify_5 : decode cX2_certify 5 = .ok (.istore_n 2, 1) := by decide +kernel
theorem dX2_certify_6 : decode cX2_certify 6 = .ok (.aload_n 0, 1) := by decide +kernel
theorem dX2_certify_7 : decode cX2_certify 7 = .ok (.getfield 11, 3) := by decide +kernel
theorem dX2_certify_10 : decode cX2_certify 10 = .ok (.astore_n 3, 1) := by decide +kernel
theorem dX2_certify_11 : decode cX2_certify 11 = .ok (.aload_n 3, 1) := by decide +kernel
theorem dX2_certify_12 : decode cX2_certify 12 = .ok (.arraylength, 1) := by decide +kernel
theorem dX2_certify_13 : decode cX2_certify 13 = .ok (.istore 4, 2) := by decide +kernel
theorem dX2_certify_15 : decode cX2_certify 15 = .ok (.iconst 0, 1) := by decide +kernel
theorem dX2_certify_16 : decode cX2_certify 16 = .ok (.istore 5, 2) := by decide +kernel
theorem dX2_certify_18 : decode cX2_certify 18 = .ok (.iload 5, 2) := by decide +kernel
theorem dX2_certify_20 : decode cX2_certify 20 = .ok (.iload 4, 2) := by decide +kernel
theorem dX2_certify_22 : decode cX2_certify 22 = .ok (.if_icmp .ge 49, 3) := by decide +kernel
theorem dX2_certify_25 : decode cX2_certify 25 = .ok (.aload_n 3, 1) := by decide +kernel
theorem dX2_certify_26 : decode cX2_certify 26 = .ok (.iload 5, 2) := by decide +kernel
theorem dX2_certify_28 : decode cX2_certify 28 = .ok (.aaload, 1) := by decide +kernel
theorem dX2_certify_29 : decode cX2_certify 29 = .ok (.astore 6, 2) := by decide +kernel
theorem dX2_certify_31 : decode cX2_certify 31 = .ok (.aload 6, 2) := by decide +kernel
theorem dX2_certify_33 : decode cX2_certify 33 = .ok (.ifnull 32, 3) := by decide +kernel
theorem dX2_certify_36 : decode cX2_certify 36 = .ok (.aload 6, 2) := by decide +kernel
theorem dX2_certify_38 : decode cX2_certify 38 = .ok (.getfield 54, 3) := by decide +kernel
theorem dX2_certify_41 : decode cX2_certify 41 = .ok (.iload_n 1, 1) := by decide +kernel
theorem dX2_certify_42 : decode cX2_certify 42 = .ok (.if_icmp .ne 23, 3) := by decide +kernel
theorem dX2_certify_45 : decode cX2_certify 45 = .ok (.aload 6, 2) := by decide +kernel
theorem dX2_certify_47 : decode cX2_certify 47 = .ok (.invokevirtual 161, 3) := by decide +kernel
theorem dX2_certify_50 : decode cX2_certify 50 = .ok (.ifCond .eq 15, 3) := by decide +kernel
theorem dX2_certify_53 : decode cX2_certify 53 = .ok (.aload 6, 2) := by decide +kernel
theorem dX2_certify_55 : decode cX2_certify 55 = .ok (.aload_n 0, 1) := by decide +kernel
theorem dX2_certify_56 : decode cX2_certify 56 = .ok (.getfield 164, 3) := by decide +kernel
theorem dX2_certify_59 : decode cX2_certify 59 = .ok (.putfield 167, 3) := by decide +kernel
theorem dX2_certify_62 : decode cX2_certify 62 = .ok (.iinc 2 1, 3) := by decide +kernel
theorem dX2_certify_65 : decode cX2_certify 65 = .ok (.iinc 5 1, 3) := by decide +kernel
theorem dX2_certify_68 : decode cX2_certify 68 = .ok (.goto (-50), 3) := by decide +kernel
theorem dX2_certify_71 : decode cX2_certify 71 = .ok (.iload_n 2, 1) := by decide +kernel
theorem dX2_certify_72 : decode cX2_certify 72 = .ok (.ifCond .ne 13, 3) := by decide +kernel
theorem dX2_certify_75 : decode cX2_certify 75 = .ok (.new 170, 3) := by decide +kernel
theorem dX2_certify_78 : decode cX2_certify 78 = .ok (.dup, 1) := by decide +kernel
theorem dX2_certify_79 : decode cX2_certify 79 = .ok (.ldc 172, 2) := by decide +kernel
theorem dX2_certify_81 : decode cX2_certify 81 = .ok (.invokespecial 174, 3) := by decide +kernel
theorem dX2_certify_84 : decode cX2_certify 84 = .ok (.athrow, 1) := by decide +kernel
theorem dX2_certify_85 : decode cX2_certify 85 = .ok (.aload_n 0, 1) := by decide +kernel
theorem dX2_certify_86 : decode cX2_certify 86 = .ok (.dup, 1) := by decide +kernel
theorem dX2_certify_87 : decode cX2_certify 87 = .ok (.getfield 164, 3) := by decide +kernel
theorem dX2_certify_90 : decode cX2_certify 90 = .ok (.iconst 1, 1) := by decide +kernel
theorem dX2_certify_91 : decode cX2_certify 91 = .ok (.iadd, 1) := by decide +kernel
theorem dX2_certify_92 : decode cX2_certify 92 = .ok (.putfield 164, 3) := by decide +kernel
theorem dX2_certify_95 : decode cX2_certify 95 = .ok (.iload_n 2, 1) := by decide +kernel
theorem dX2_certify_96 : decode cX2_certify 96 = .ok (.ireturn, 1) := by decide +kernel
theorem dX2_disks_0 : decode cX2_disks 0 = .ok (.aload_n 0, 1) := by decide +kernel
theorem dX2_disks_1 : decode cX2_disks 1 = .ok (.getfield 34, 3) := by decide +kernel
theorem dX2_disks_4 : decode cX2_disks 4 = .ok (.ireturn, 1) := by decide +kernel
theorem dX2_keeperOf_0 : decode cX2_keeperOf 0 = .ok (.aload_n 0, 1) := by decide +kernel
theorem dX2_keeperOf_1 : decode cX2_keeperOf 1 = .ok (.iload_n 1, 1) := by decide +kernel
theorem dX2_keeperOf_2 : decode cX2_keeperOf 2 = .ok (.invokevirtual 50, 3) := by decide +kernel
theorem dX2_keeperOf_5 : decode cX2_keeperOf 5 = .ok (.getfield 54, 3) := by decide +kernel
theorem dX2_keeperOf_8 : decode cX2_keeperOf 8 = .ok (.ireturn, 1) := by decide +kernel
theorem dX2_keeperByLog_0 : decode cX2_keeperByLog 0 = .ok (.aload_n 0, 1) := by decide +kernel
theorem dX2_keeperByLog_1 : decode cX2_keeperByLog 1 = .ok (.iload_n 1, 1) := by decide +kernel
theorem dX2_keeperByLog_2 : decode cX2_keeperByLog 2 = .ok (.invokevirtual 50, 3) := by decide +kernel
theorem dX2_keeperByLog_5 : decode cX2_keeperByLog 5 = .ok (.getfield 175, 3) := by decide +kernel
theorem dX2_keeperByLog_8 : decode cX2_keeperByLog 8 = .ok (.ireturn, 1) := by decide +kernel
theorem dX2_crateOf_0 : decode cX2_crateOf 0 = .ok (.aload_n 0, 1) := by decide +kernel
theorem dX2_crateOf_1 : decode cX2_crateOf 1 = .ok (.iload_n 1, 1) := by decide +kernel
theorem dX2_crateOf_2 : decode cX2_crateOf 2 = .ok (.invokevirtual 50, 3) := by decide +kernel
theorem dX2_crateOf_5 : decode cX2_crateOf 5 = .ok (.invokevirtual 157, 3) := by decide +kernel
theorem dX2_crateOf_8 : decode cX2_crateOf 8 = .ok (.ireturn, 1) := by decide +kernel
theorem dX2_stateOf_0 : decode cX2_stateOf 0 = .ok (.aload_n 0, 1) := by decide +kernel
theorem dX2_stateOf_1 : decode cX2_stateOf 1 = .ok (.iload_n 1, 1) := by decide +kernel
theorem dX2_stateOf_2 : decode cX2_stateOf 2 = .ok (.invokevirtual 50, 3) := by decide +kernel
theorem dX2_stateOf_5 : decode cX2_stateOf 5 = .ok (.getfield 130, 3) := by decide +kernel
theorem dX2_stateOf_8 : decode cX2_stateOf 8 = .ok (.ireturn, 1) := by decide +kernel
theorem dX2_isDone_0 : decode cX2_isDone 0 = .ok (.aload_n 0, 1) := by decide +kernel
theorem dX2_isDone_1 : decode cX2_isDone 1 = .ok (.iload_n 1, 1) := by decide +kernel
theorem dX2_isDone_2 : decode cX2_isDone 2 = .ok (.invokevirtual 50, 3) := by decide +kernel
theorem dX2_isDone_5 : decode cX2_isDone 5 = .ok (.invokevirtual 178, 3) := by decide +kernel
theorem dX2_isDone_8 : decode cX2_isDone 8 = .ok (.ireturn, 1) := by decide +kernel
theorem dX2_offeredTo_0 : decode cX2_offeredTo 0 = .ok (.aload_n 0, 1) := by decide +kernel
theorem dX2_offeredTo_1 : decode cX2_offeredTo 1 = .ok (.iload_n 1, 1) := by decide +kernel
theorem dX2_offeredTo_2 : decode cX2_offeredTo 2 = .ok (.invokevirtual 50, 3) := by decide +kernel
theorem dX2_offeredTo_5 : decode cX2_offeredTo 5 = .ok (.getfield 63, 3) := by decide +kernel
theorem dX2_offeredTo_8 : decode cX2_offeredTo 8 = .ok (.ireturn, 1) := by decide +kernel
theorem dX2_certificateOf_0 : decode cX2_certificateOf 0 = .ok (.aload_n 0, 1) := by decide +kernel
theorem dX2_certificateOf_1 : decode cX2_certificateOf 1 = .ok (.iload_n 1, 1) := by decide +kernel
theorem dX2_certificateOf_2 : decode cX2_certificateOf 2 = .ok (.invokevirtual 50, 3) := by decide +kernel
theorem dX2_certificateOf_5 : decode cX2_certificateOf 5 = .ok (.getfield 167, 3) := by decide +kernel
theorem dX2_certificateOf_8 : decode cX2_certificateOf 8 = .ok (.ireturn, 1) := by decide +kernel
theorem dX2_crateKeeper_0 : decode cX2_crateKeeper 0 = .ok (.aload_n 0, 1) := by decide +kernel
theorem dX2_crateKeeper_1 : decode cX2_crateKeeper 1 = .ok (.iload_n 1, 1) := by decide +kernel
theorem dX2_crateKeeper_2 : decode cX2_crateKeeper 2 = .ok (.invokevirtual 72, 3) := by decide +kernel
theorem dX2_crateKeeper_5 : decode cX2_crateKeeper 5 = .ok (.getfield 80, 3) := by decide +kernel
theorem dX2_crateKeeper_8 : decode cX2_crateKeeper 8 = .ok (.ireturn, 1) := by decide +kernel
theorem dX2_sealOf_0 : decode cX2_sealOf 0 = .ok (.aload_n 0, 1) := by decide +kernel
theorem dX2_sealOf_1 : decode cX2_sealOf 1 = .ok (.iload_n 1, 1) := by decide +kernel
theorem dX2_sealOf_2 : decode cX2_sealOf 2 = .ok (.invokevirtual 72, 3) := by decide +kernel
theorem dX2_sealOf_5 : decode cX2_sealOf 5 = .ok (.getfield 101, 3) := by decide +kernel
theorem dX2_sealOf_8 : decode cX2_sealOf 8 = .ok (.ireturn, 1) := by decide +kernel
theorem dX2_has_0 : decode cX2_has 0 = .ok (.iload_n 1, 1) := by decide +kernel
theorem dX2_has_1 : decode cX2_has 1 = .ok (.invokestatic 24, 3) := by decide +kernel
theorem dX2_has_4 : decode cX2_has 4 = .ok (.iconst 0, 1) := by decide +kernel
theorem dX2_has_5 : decode cX2_has 5 = .ok (.istore_n 2, 1) := by decide +kernel
theorem dX2_has_6 : decode cX2_has 6 = .ok (.aload_n 0, 1) := by decide +kernel
theorem dX2_has_7 : decode cX2_has 7 = .ok (.getfield 11, 3) := by decide +kernel
theorem dX2_has_10 : decode cX2_has 10 = .ok (.astore_n 3, 1) := by decide +kernel
theorem dX2_has_11 : decode cX2_has 11 = .ok (.aload_n 3, 1) := by decide +kernel
theorem dX2_has_12 : decode cX2_has 12 = .ok (.arraylength, 1) := by decide +kernel
theorem dX2_has_13 : decode cX2_has 13 = .ok (.istore 4, 2) := by decide +kernel
theorem dX2_has_15 : decode cX2_has 15 = .ok (.iconst 0, 1) := by decide +kernel
theorem dX2_has_16 : decode cX2_has 16 = .ok (.istore 5, 2) := by decide +kernel
theorem dX2_has_18 : decode cX2_has 18 = .ok (.iload 5, 2) := by decide +kernel
theorem dX2_has_20 : decode cX2_has 20 = .ok (.iload 4, 2) := by decide +kernel
theorem dX2_has_22 : decode cX2_has 22 = .ok (.if_icmp .ge 32, 3) := by decide +kernel
theorem dX2_has_25 : decode cX2_has 25 = .ok (.aload_n 3, 1) := by decide +kernel
theorem dX2_has_26 : decode cX2_has 26 = .ok (.iload 5, 2) := by decide +kernel
theorem dX2_has_28 : decode cX2_has 28 = .ok (.aaload, 1) := by decide +kernel
theorem dX2_has_29 : decode cX2_has 29 = .ok (.astore 6, 2) := by decide +kernel
theorem dX2_has_31 : decode cX2_has 31 = .ok (.aload 6, 2) := by decide +kernel
theorem dX2_has_33 : decode cX2_has 33 = .ok (.ifnull 15, 3) := by decide +kernel
theorem dX2_has_36 : decode cX2_has 36 = .ok (.aload 6, 2) := by decide +kernel
theorem dX2_has_38 : decode cX2_has 38 = .ok (.getfield 54, 3) := by decide +kernel
theorem dX2_has_41 : decode cX2_has 41 = .ok (.iload_n 1, 1) := by decide +kernel
theorem dX2_has_42 : decode cX2_has 42 = .ok (.if_icmp .ne 6, 3) := by decide +kernel
theorem dX2_has_45 : decode cX2_has 45 = .ok (.iinc 2 1, 3) := by decide +kernel
theorem dX2_has_48 : decode cX2_has 48 = .ok (.iinc 5 1, 3) := by decide +kernel
theorem dX2_has_51 : decode cX2_has 51 = .ok (.goto (-33), 3) := by decide +kernel
theorem dX2_has_54 : decode cX2_has 54 = .ok (.iload_n 2, 1) := by decide +kernel
theorem dX2_has_55 : decode cX2_has 55 = .ok (.ireturn, 1) := by decide +kernel
theorem dX2_missing_0 : decode cX2_missing 0 = .ok (.iconst 0, 1) := by decide +kernel
theorem dX2_missing_1 : decode cX2_missing 1 = .ok (.istore_n 1, 1) := by decide +kernel
theorem dX2_missing_2 : decode cX2_missing 2 = .ok (.aload_n 0, 1) := by decide +kernel
theorem dX2_missing_3 : decode cX2_missing 3 = .ok (.getfield 11, 3) := by decide +kernel
theorem dX2_missing_6 : decode cX2_missing 6 = .ok (.astore_n 2, 1) := by decide +kernel
theorem dX2_missing_7 : decode cX2_missing 7 = .ok (.aload_n 2, 1) := by decide +kernel
theorem dX2_missing_8 : decode cX2_missing 8 = .ok (.arraylength, 1) := by decide +kernel
theorem dX2_missing_9 : decode cX2_missing 9 = .ok (.istore_n 3, 1) := by decide +kernel
theorem dX2_missing_10 : decode cX2_missing 10 = .ok (.iconst 0, 1) := by decide +kernel
theorem dX2_missing_11 : decode cX2_missing 11 = .ok (.istore 4, 2) := by decide +kernel
theorem dX2_missing_13 : decode cX2_missing 13 = .ok (.iload 4, 2) := by decide +kernel
theorem dX2_missing_15 : decode cX2_missing 15 = .ok (.iload_n 3, 1) := by decide +kernel
theorem dX2_missing_16 : decode cX2_missing 16 = .ok (.if_icmp .ge 31, 3) := by decide +kernel
theorem dX2_missing_19 : decode cX2_missing 19 = .ok (.aload_n 2, 1) := by decide +kernel
theorem dX2_missing_20 : decode cX2_missing 20 = .ok (.iload 4, 2) := by decide +kernel
theorem dX2_missing_22 : decode cX2_missing 22 = .ok (.aaload, 1) := by decide +kernel
theorem dX2_missing_23 : decode cX2_missing 23 = .ok (.astore 5, 2) := by decide +kernel
theorem dX2_missing_25 : decode cX2_missing 25 = .ok (.aload 5, 2) := by decide +kernel
theorem dX2_missing_27 : decode cX2_missing 27 = .ok (.ifnull 14, 3) := by decide +kernel
theorem dX2_missing_30 : decode cX2_missing 30 = .ok (.aload 5, 2) := by decide +kernel
theorem dX2_missing_32 : decode cX2_missing 32 = .ok (.getfield 66, 3) := by decide +kernel
theorem dX2_missing_35 : decode cX2_missing 35 = .ok (.ifCond .eq 6, 3) := by decide +kernel
theorem dX2_missing_38 : decode cX2_missing 38 = .ok (.iinc 1 1, 3) := by decide +kernel
theorem dX2_missing_41 : decode cX2_missing 41 = .ok (.iinc 4 1, 3) := by decide +kernel
theorem dX2_missing_44 : decode cX2_missing 44 = .ok (.goto (-31), 3) := by decide +kernel
theorem dX2_missing_47 : decode cX2_missing 47 = .ok (.iload_n 1, 1) := by decide +kernel
theorem dX2_missing_48 : decode cX2_missing 48 = .ok (.ireturn, 1) := by decide +kernel
theorem dX2_oddCounts_0 : decode cX2_oddCounts 0 = .ok (.aload_n 0, 1) := by decide +kernel
theorem dX2_oddCounts_1 : decode cX2_oddCounts 1 = .ok (.getfield 111, 3) := by decide +kernel
theorem dX2_oddCounts_4 : decode cX2_oddCounts 4 = .ok (.ireturn, 1) := by decide +kernel
theorem dX2_logged_0 : decode cX2_logged 0 = .ok (.aload_n 0, 1) := by decide +kernel
theorem dX2_logged_1 : decode cX2_logged 1 = .ok (.getfield 181, 3) := by decide +kernel
theorem dX2_logged_4 : decode cX2_logged 4 = .ok (.ireturn, 1) := by decide +kernel
theorem dX2_certificates_0 : decode cX2_certificates 0 = .ok (.aload_n 0, 1) := by decide +kernel
theorem dX2_certificates_1 : decode cX2_certificates 1 = .ok (.getfield 164, 3) := by decide +kernel
theorem dX2_certificates_4 : decode cX2_certificates 4 = .ok (.ireturn, 1) := by decide +kernel
theorem dX2_findDisk_0 : decode cX2_findDisk 0 = .ok (.iload_n 1, 1) := by decide +kernel
theorem dX2_findDisk_1 : decode cX2_findDisk 1 = .ok (.ifCond .lt 12, 3) := by decide +kernel
theorem dX2_findDisk_4 : decode cX2_findDisk 4 = .ok (.iload_n 1, 1) := by decide +kernel
theorem dX2_findDisk_5 : decode cX2_findDisk 5 = .ok (.aload_n 0, 1) := by decide +kernel
theorem dX2_findDisk_6 : decode cX2_findDisk 6 = .ok (.getfield 11, 3) := by decide +kernel
theorem dX2_findDisk_9 : decode cX2_findDisk 9 = .ok (.arraylength, 1) := by decide +kernel
theorem dX2_findDisk_10 : decode cX2_findDisk 10 = .ok (.if_icmp .lt 7, 3) := by decide +kernel
theorem dX2_findDisk_13 : decode cX2_findDisk 13 = .ok (.aconst_null, 1) := by decide +kernel
theorem dX2_findDisk_14 : decode cX2_findDisk 14 = .ok (.goto 9, 3) := by decide +kernel
theorem dX2_findDisk_17 : decode cX2_findDisk 17 = .ok (.aload_n 0, 1) := by decide +kernel
theorem dX2_findDisk_18 : decode cX2_findDisk 18 = .ok (.getfield 11, 3) := by decide +kernel
theorem dX2_findDisk_21 : decode cX2_findDisk 21 = .ok (.iload_n 1, 1) := by decide +kernel
theorem dX2_findDisk_22 : decode cX2_findDisk 22 = .ok (.aaload, 1) := by decide +kernel
theorem dX2_findDisk_23 : decode cX2_findDisk 23 = .ok (.astore_n 2, 1) := by decide +kernel
theorem dX2_findDisk_24 : decode cX2_findDisk 24 = .ok (.aload_n 2, 1) := by decide +kernel
theorem dX2_findDisk_25 : decode cX2_findDisk 25 = .ok (.ifnonnull 13, 3) := by decide +kernel
theorem dX2_findDisk_28 : decode cX2_findDisk 28 = .ok (.new 184, 3) := by decide +kernel
theorem dX2_findDisk_31 : decode cX2_findDisk 31 = .ok (.dup, 1) := by decide +kernel
theorem dX2_findDisk_32 : decode cX2_findDisk 32 = .ok (.ldc 186, 2) := by decide +kernel
theorem dX2_findDisk_34 : decode cX2_findDisk 34 = .ok (.invokespecial 188, 3) := by decide +kernel
theorem dX2_findDisk_37 : decode cX2_findDisk 37 = .ok (.athrow, 1) := by decide +kernel
theorem dX2_findDisk_38 : decode cX2_findDisk 38 = .ok (.aload_n 2, 1) := by decide +kernel
theorem dX2_findDisk_39 : decode cX2_findDisk 39 = .ok (.areturn, 1) := by decide +kernel
theorem dX2_findCrate_0 : decode cX2_findCrate 0 = .ok (.iload_n 1, 1) := by decide +kernel
theorem dX2_findCrate_1 : decode cX2_findCrate 1 = .ok (.ifCond .lt 12, 3) := by decide +kernel
theorem dX2_findCrate_4 : decode cX2_findCrate 4 = .ok (.iload_n 1, 1) := by decide +kernel
theorem dX2_findCrate_5 : decode cX2_findCrate 5 = .ok (.aload_n 0, 1) := by decide +kernel
theorem dX2_findCrate_6 : decode cX2_findCrate 6 = .ok (.getfield 17, 3) := by decide +kernel
theorem dX2_findCrate_9 : decode cX2_findCrate 9 = .ok (.arraylength, 1) := by decide +kernel
theorem dX2_findCrate_10 : decode cX2_findCrate 10 = .ok (.if_icmp .lt 7, 3) := by decide +kernel
theorem dX2_findCrate_13 : decode cX2_findCrate 13 = .ok (.aconst_null, 1) := by decide +kernel
theorem dX2_findCrate_14 : decode cX2_findCrate 14 = .ok (.goto 9, 3) := by decide +kernel
theorem dX2_findCrate_17 : decode cX2_findCrate 17 = .ok (.aload_n 0, 1) := by decide +kernel
theorem dX2_findCrate_18 : decode cX2_findCrate 18 = .ok (.getfield 17, 3) := by decide +kernel
theorem dX2_findCrate_21 : decode cX2_findCrate 21 = .ok (.iload_n 1, 1) := by decide +kernel
theorem dX2_findCrate_22 : decode cX2_findCrate 22 = .ok (.aaload, 1) := by decide +kernel
theorem dX2_findCrate_23 : decode cX2_findCrate 23 = .ok (.astore_n 2, 1) := by decide +kernel
theorem dX2_findCrate_24 : decode cX2_findCrate 24 = .ok (.aload_n 2, 1) := by decide +kernel
theorem dX2_findCrate_25 : decode cX2_findCrate 25 = .ok (.ifnonnull 13, 3) := by decide +kernel
theorem dX2_findCrate_28 : decode cX2_findCrate 28 = .ok (.new 184, 3) := by decide +kernel
theorem dX2_findCrate_31 : decode cX2_findCrate 31 = .ok (.dup, 1) := by decide +kernel
theorem dX2_findCrate_32 : decode cX2_findCrate 32 = .ok (.ldc 189, 2) := by decide +kernel
theorem dX2_findCrate_34 : decode cX2_findCrate 34 = .ok (.invokespecial 188, 3) := by decide +kernel
theorem dX2_findCrate_37 : decode cX2_findCrate 37 = .ok (.athrow, 1) := by decide +kernel
theorem dX2_findCrate_38 : decode cX2_findCrate 38 = .ok (.aload_n 2, 1) := by decide +kernel
theorem dX2_findCrate_39 : decode cX2_findCrate 39 = .ok (.areturn, 1) := by decide +kernel
theorem dX2_countDisksIn_0 : decode cX2_countDisksIn 0 = .ok (.iconst 0, 1) := by decide +kernel
theorem dX2_countDisksIn_1 : decode cX2_countDisksIn 1 = .ok (.istore_n 2, 1) := by decide +kernel
theorem dX2_countDisksIn_2 : decode cX2_countDisksIn 2 = .ok (.aload_n 0, 1) := by decide +kernel
theorem dX2_countDisksIn_3 : decode cX2_countDisksIn 3 = .ok (.getfield 11, 3) := by decide +kernel
theorem dX2_countDisksIn_6 : decode cX2_countDisksIn 6 = .ok (.astore_n 3, 1) := by decide +kernel
theorem dX2_countDisksIn_7 : decode cX2_countDisksIn 7 = .ok (.aload_n 3, 1) := by decide +kernel
theorem dX2_countDisksIn_8 : decode cX2_countDisksIn 8 = .ok (.arraylength, 1) := by decide +kernel
theorem dX2_countDisksIn_9 : decode cX2_countDisksIn 9 = .ok (.istore 4, 2) := by decide +kernel
theorem dX2_countDisksIn_11 : decode cX2_countDisksIn 11 = .ok (.iconst 0, 1) := by decide +kernel
theorem dX2_countDisksIn_12 : decode cX2_countDisksIn 12 = .ok (.istore 5, 2) := by decide +kernel
theorem dX2_countDisksIn_14 : decode cX2_countDisksIn 14 = .ok (.iload 5, 2) := by decide +kernel
theorem dX2_countDisksIn_16 : decode cX2_countDisksIn 16 = .ok (.iload 4, 2) := by decide +kernel
theorem dX2_countDisksIn_18 : decode cX2_countDisksIn 18 = .ok (.if_icmp .ge 35, 3) := by decide +kernel
theorem dX2_countDisksIn_21 : decode cX2_countDisksIn 21 = .ok (.aload_n 3, 1) := by decide +kernel
theorem dX2_countDisksIn_22 : decode cX2_countDisksIn 22 = .ok (.iload 5, 2) := by decide +kernel
theorem dX2_countDisksIn_24 : decode cX2_countDisksIn 24 = .ok (.aaload, 1) := by decide +kernel
theorem dX2_countDisksIn_25 : decode cX2_countDisksIn 25 = .ok (.astore 6, 2) := by decide +kernel
theorem dX2_countDisksIn_27 : decode cX2_countDisksIn 27 = .ok (.aload 6, 2) := by decide +kernel
theorem dX2_countDisksIn_29 : decode cX2_countDisksIn 29 = .ok (.ifnull 18, 3) := by decide +kernel
theorem dX2_countDisksIn_32 : decode cX2_countDisksIn 32 = .ok (.aload 6, 2) := by decide +kernel
theorem dX2_countDisksIn_34 : decode cX2_countDisksIn 34 = .ok (.invokevirtual 157, 3) := by decide +kernel
theorem dX2_countDisksIn_37 : decode cX2_countDisksIn 37 = .ok (.aload_n 1, 1) := by decide +kernel
theorem dX2_countDisksIn_38 : decode cX2_countDisksIn 38 = .ok (.getfield 93, 3) := by decide +kernel
theorem dX2_countDisksIn_41 : decode cX2_countDisksIn 41 = .ok (.if_icmp .ne 6, 3) := by decide +kernel
theorem dX2_countDisksIn_44 : decode cX2_countDisksIn 44 = .ok (.iinc 2 1, 3) := by decide +kernel
theorem dX2_countDisksIn_47 : decode cX2_countDisksIn 47 = .ok (.iinc 5 1, 3) := by decide +kernel
theorem dX2_countDisksIn_50 : decode cX2_countDisksIn 50 = .ok (.goto (-36), 3) := by decide +kernel
theorem dX2_countDisksIn_53 : decode cX2_countDisksIn 53 = .ok (.iload_n 2, 1) := by decide +kernel
theorem dX2_countDisksIn_54 : decode cX2_countDisksIn 54 = .ok (.ireturn, 1) := by decide +kernel
theorem dX2_handOverDisksIn_0 : decode cX2_handOverDisksIn 0 = .ok (.aload_n 0, 1) := by decide +kernel
theorem dX2_handOverDisksIn_1 : decode cX2_handOverDisksIn 1 = .ok (.getfield 11, 3) := by decide +kernel
theorem dX2_handOverDisksIn_4 : decode cX2_handOverDisksIn 4 = .ok (.astore_n 2, 1) := by decide +kernel
theorem dX2_handOverDisksIn_5 : decode cX2_handOverDisksIn 5 = .ok (.aload_n 2, 1) := by decide +kernel
theorem dX2_handOverDisksIn_6 : decode cX2_handOverDisksIn 6 = .ok (.arraylength, 1) := by decide +kernel
theorem dX2_handOverDisksIn_7 : decode cX2_handOverDisksIn 7 = .ok (.istore_n 3, 1) := by decide +kernel
theorem dX2_handOverDisksIn_8 : decode cX2_handOverDisksIn 8 = .ok (.iconst 0, 1) := by decide +kernel
theorem dX2_handOverDisksIn_9 : decode cX2_handOverDisksIn 9 = .ok (.istore 4, 2) := by decide +kernel
theorem dX2_handOverDisksIn_11 : decode cX2_handOverDisksIn 11 = .ok (.iload 4, 2) := by decide +kernel
theorem dX2_handOverDisksIn_13 : decode cX2_handOverDisksIn 13 = .ok (.iload_n 3, 1) := by decide +kernel
theorem dX2_handOverDisksIn_14 : decode cX2_handOverDisksIn 14 = .ok (.if_icmp .ge 42, 3) := by decide +kernel
theorem dX2_handOverDisksIn_17 : decode cX2_handOverDisksIn 17 = .ok (.aload_n 2, 1) := by decide +kernel
theorem dX2_handOverDisksIn_18 : decode cX2_handOverDisksIn 18 = .ok (.iload 4, 2) := by decide +kernel
theorem dX2_handOverDisksIn_20 : decode cX2_handOverDisksIn 20 = .ok (.aaload, 1) := by decide +kernel
theorem dX2_handOverDisksIn_21 : decode cX2_handOverDisksIn 21 = .ok (.astore 5, 2) := by decide +kernel
theorem dX2_handOverDisksIn_23 : decode cX2_handOverDisksIn 23 = .ok (.aload 5, 2) := by decide +kernel
theorem dX2_handOverDisksIn_25 : decode cX2_handOverDisksIn 25 = .ok (.ifnull 25, 3) := by decide +kernel
theorem dX2_handOverDisksIn_28 : decode cX2_handOverDisksIn 28 = .ok (.aload 5, 2) := by decide +kernel
theorem dX2_handOverDisksIn_30 : decode cX2_handOverDisksIn 30 = .ok (.invokevirtual 157, 3) := by decide +kernel
theorem dX2_handOverDisksIn_33 : decode cX2_handOverDisksIn 33 = .ok (.aload_n 1, 1) := by decide +kernel
theorem dX2_handOverDisksIn_34 : decode cX2_handOverDisksIn 34 = .ok (.getfield 93, 3) := by decide +kernel
theorem dX2_handOverDisksIn_37 : decode cX2_handOverDisksIn 37 = .ok (.if_icmp .ne 13, 3) := by decide +kernel
theorem dX2_handOverDisksIn_40 : decode cX2_handOverDisksIn 40 = .ok (.aload_n 0, 1) := by decide +kernel
theorem dX2_handOverDisksIn_41 : decode cX2_handOverDisksIn 41 = .ok (.aload 5, 2) := by decide +kernel
theorem dX2_handOverDisksIn_43 : decode cX2_handOverDisksIn 43 = .ok (.aload_n 1, 1) := by decide +kernel
theorem dX2_handOverDisksIn_44 : decode cX2_handOverDisksIn 44 = .ok (.getfield 80, 3) := by decide +kernel
theorem dX2_handOverDisksIn_47 : decode cX2_handOverDisksIn 47 = .ok (.invokevirtual 46, 3) := by decide +kernel
theorem dX2_handOverDisksIn_50 : decode cX2_handOverDisksIn 50 = .ok (.iinc 4 1, 3) := by decide +kernel
theorem dX2_handOverDisksIn_53 : decode cX2_handOverDisksIn 53 = .ok (.goto (-42), 3) := by decide +kernel
theorem dX2_handOverDisksIn_56 : decode cX2_handOverDisksIn 56 = .ok (.return_, 1) := by decide +kernel
theorem dX2_handOver_0 : decode cX2_handOver 0 = .ok (.aload_n 1, 1) := by decide +kernel
theorem dX2_handOver_1 : decode cX2_handOver 1 = .ok (.iload_n 2, 1) := by decide +kernel
theorem dX2_handOver_2 : decode cX2_handOver 2 = .ok (.putfield 54, 3) := by decide +kernel
theorem dX2_handOver_5 : decode cX2_handOver 5 = .ok (.aload_n 1, 1) := by decide +kernel
theorem dX2_handOver_6 : decode cX2_handOver 6 = .ok (.iload_n 2, 1) := by decide +kernel
theorem dX2_handOver_7 : decode cX2_handOver 7 = .ok (.putfield 175, 3) := by decide +kernel
theorem dX2_handOver_10 : decode cX2_handOver 10 = .ok (.aload_n 0, 1) := by decide +kernel
theorem dX2_handOver_11 : decode cX2_handOver 11 = .ok (.dup, 1) := by decide +kernel
theorem dX2_handOver_12 : decode cX2_handOver 12 = .ok (.getfield 181, 3) := by decide +kernel
theorem dX2_handOver_15 : decode cX2_handOver 15 = .ok (.iconst 1, 1) := by decide +kernel
theorem dX2_handOver_16 : decode cX2_handOver 16 = .ok (.iadd, 1) := by decide +kernel
theorem dX2_handOver_17 : decode cX2_handOver 17 = .ok (.putfield 181, 3) := by decide +kernel
theorem dX2_handOver_20 : decode cX2_handOver 20 = .ok (.return_, 1) := by decide +kernel
theorem dX2_requireKeeper_0 : decode cX2_requireKeeper 0 = .ok (.iload_n 0, 1) := by decide +kernel
theorem dX2_requireKeeper_1 : decode cX2_requireKeeper 1 = .ok (.ifCond .lt 9, 3) := by decide +kernel
theorem dX2_requireKeeper_4 : decode cX2_requireKeeper 4 = .ok (.iload_n 0, 1) := by decide +kernel
theorem dX2_requireKeeper_5 : decode cX2_requireKeeper 5 = .ok (.bipush 8, 2) := by decide +kernel
theorem dX2_requireKeeper_7 : decode cX2_requireKeeper 7 = .ok (.if_icmp .lt 13, 3) := by decide +kernel
theorem dX2_requireKeeper_10 : decode cX2_requireKeeper 10 = .ok (.new 184, 3) := by decide +kernel
theorem dX2_requireKeeper_13 : decode cX2_requireKeeper 13 = .ok (.dup, 1) := by decide +kernel
theorem dX2_requireKeeper_14 : decode cX2_requireKeeper 14 = .ok (.ldc 191, 2) := by decide +kernel
theorem dX2_requireKeeper_16 : decode cX2_requireKeeper 16 = .ok (.invokespecial 188, 3) := by decide +kernel
theorem dX2_requireKeeper_19 : decode cX2_requireKeeper 19 = .ok (.athrow, 1) := by decide +kernel
theorem dX2_requireKeeper_20 : decode cX2_requireKeeper 20 = .ok (.return_, 1) := by decide +kernel
theorem dX2_requireLoose_0 : decode cX2_requireLoose 0 = .ok (.aload_n 0, 1) := by decide +kernel
theorem dX2_requireLoose_1 : decode cX2_requireLoose 1 = .ok (.getfield 66, 3) := by decide +kernel
theorem dX2_requireLoose_4 : decode cX2_requireLoose 4 = .ok (.ifCond .ne 18, 3) := by decide +kernel
theorem dX2_requireLoose_7 : decode cX2_requireLoose 7 = .ok (.aload_n 0, 1) := by decide +kernel
theorem dX2_requireLoose_8 : decode cX2_requireLoose 8 = .ok (.getfield 63, 3) := by decide +kernel
theorem dX2_requireLoose_11 : decode cX2_requireLoose 11 = .ok (.iconst (-1), 1) := by decide +kernel
theorem dX2_requireLoose_12 : decode cX2_requireLoose 12 = .ok (.if_icmp .ne 10, 3) := by decide +kernel
theorem dX2_requireLoose_15 : decode cX2_requireLoose 15 = .ok (.aload_n 0, 1) := by decide +kernel
theorem dX2_requireLoose_16 : decode cX2_requireLoose 16 = .ok (.getfield 83, 3) := by decide +kernel
theorem dX2_requireLoose_19 : decode cX2_requireLoose 19 = .ok (.ifnull 13, 3) := by decide +kernel
theorem dX2_requireLoose_22 : decode cX2_requireLoose 22 = .ok (.new 38, 3) := by decide +kernel
theorem dX2_requireLoose_25 : decode cX2_requireLoose 25 = .ok (.dup, 1) := by decide +kernel
theorem dX2_requireLoose_26 : decode cX2_requireLoose 26 = .ok (.ldc 193, 2) := by decide +kernel
theorem dX2_requireLoose_28 : decode cX2_requireLoose 28 = .ok (.invokespecial 42, 3) := by decide +kernel
theorem dX2_requireLoose_31 : decode cX2_requireLoose 31 = .ok (.athrow, 1) := by decide +kernel
theorem dX2_requireLoose_32 : decode cX2_requireLoose 32 = .ok (.return_, 1) := by decide +kernel
theorem dX2_requireWithinReach_0 : decode cX2_requireWithinReach 0 = .ok (.aload_n 0, 1) := by decide +kernel
theorem dX2_requireWithinReach_1 : decode cX2_requireWithinReach 1 = .ok (.getfield 66, 3) := by decide +kernel
theorem dX2_requireWithinReach_4 : decode cX2_requireWithinReach 4 = .ok (.ifCond .ne 18, 3) := by decide +kernel
theorem dX2_requireWithinReach_7 : decode cX2_requireWithinReach 7 = .ok (.aload_n 0, 1) := by decide +kernel
theorem dX2_requireWithinReach_8 : decode cX2_requireWithinReach 8 = .ok (.getfield 63, 3) := by decide +kernel
theorem dX2_requireWithinReach_11 : decode cX2_requireWithinReach 11 = .ok (.iconst (-1), 1) := by decide +kernel
theorem dX2_requireWithinReach_12 : decode cX2_requireWithinReach 12 = .ok (.if_icmp .ne 10, 3) := by decide +kernel
theorem dX2_requireWithinReach_15 : decode cX2_requireWithinReach 15 = .ok (.aload_n 0, 1) := by decide +kernel
theorem dX2_requireWithinReach_16 : decode cX2_requireWithinReach 16 = .ok (.invokevirtual 195, 3) := by decide +kernel
theorem dX2_requireWithinReach_19 : decode cX2_requireWithinReach 19 = .ok (.ifCond .eq 13, 3) := by decide +kernel
theorem dX2_requireWithinReach_22 : decode cX2_requireWithinReach 22 = .ok (.new 38, 3) := by decide +kernel
theorem dX2_requireWithinReach_25 : decode cX2_requireWithinReach 25 = .ok (.dup, 1) := by decide +kernel
theorem dX2_requireWithinReach_26 : decode cX2_requireWithinReach 26 = .ok (.ldc 198, 2) := by decide +kernel
theorem dX2_requireWithinReach_28 : decode cX2_requireWithinReach 28 = .ok (.invokespecial 42, 3) := by decide +kernel
theorem dX2_requireWithinReach_31 : decode cX2_requireWithinReach 31 = .ok (.athrow, 1) := by decide +kernel
theorem dX2_requireWithinReach_32 : decode cX2_requireWithinReach 32 = .ok (.return_, 1) := by decide +kernel
theorem dX2_requireWitnessIsNotKeeper_0 : decode cX2_requireWitnessIsNotKeeper 0 = .ok (.iload_n 1, 1) := by decide +kernel
theorem dX2_requireWitnessIsNotKeeper_1 : decode cX2_requireWitnessIsNotKeeper 1 = .ok (.aload_n 0, 1) := by decide +kernel
theorem dX2_requireWitnessIsNotKeeper_2 : decode cX2_requireWitnessIsNotKeeper 2 = .ok (.getfield 54, 3) := by decide +kernel
theorem dX2_requireWitnessIsNotKeeper_5 : decode cX2_requireWitnessIsNotKeeper 5 = .ok (.if_icmp .ne 13, 3) := by decide +kernel
theorem dX2_requireWitnessIsNotKeeper_8 : decode cX2_requireWitnessIsNotKeeper 8 = .ok (.new 27, 3) := by decide +kernel
theorem dX2_requireWitnessIsNotKeeper_11 : decode cX2_requireWitnessIsNotKeeper 11 = .ok (.dup, 1) := by decide +kernel
theorem dX2_requireWitnessIsNotKeeper_12 : decode cX2_requireWitnessIsNotKeeper 12 = .ok (.ldc 200, 2) := by decide +kernel
theorem dX2_requireWitnessIsNotKeeper_14 : decode cX2_requireWitnessIsNotKeeper 14 = .ok (.invokespecial 31, 3) := by decide +kernel
theorem dX2_requireWitnessIsNotKeeper_17 : decode cX2_requireWitnessIsNotKeeper 17 = .ok (.athrow, 1) := by decide +kernel
theorem dX2_requireWitnessIsNotKeeper_18 : decode cX2_requireWitnessIsNotKeeper 18 = .ok (.return_, 1) := by decide +kernel
theorem dX3_init_0 : decode cX3_init 0 = .ok (.aload_n 0, 1) := by decide +kernel
theorem dX3_init_1 : decode cX3_init 1 = .ok (.invokespecial 1, 3) := by decide +kernel
theorem dX3_init_4 : decode cX3_init 4 = .ok (.aload_n 0, 1) := by decide +kernel
theorem dX3_init_5 : decode cX3_init 5 = .ok (.bipush 60, 2) := by decide +kernel
theorem dX3_init_7 : decode cX3_init 7 = .ok (.newarray .int, 2) := by decide +kernel
theorem dX3_init_9 : decode cX3_init 9 = .ok (.putfield 7, 3) := by decide +kernel
theorem dX3_init_12 : decode cX3_init 12 = .ok (.aload_n 0, 1) := by decide +kernel
theorem dX3_init_13 : decode cX3_init 13 = .ok (.bipush 60, 2) := by decide +kernel
theorem dX3_init_15 : decode cX3_init 15 = .ok (.newarray .int, 2) := by decide +kernel
theorem dX3_init_17 : decode cX3_init 17 = .ok (.putfield 13, 3) := by decide +kernel
theorem dX3_init_20 : decode cX3_init 20 = .ok (.aload_n 0, 1) := by decide +kernel
theorem dX3_init_21 : decode cX3_init 21 = .ok (.bipush 60, 2) := by decide +kernel
theorem dX3_init_23 : decode cX3_init 23 = .ok (.newarray .int, 2) := by decide +kernel
theorem dX3_init_25 : decode cX3_init 25 = .ok (.putfield 16, 3) := by decide +kernel
theorem dX3_init_28 : decode cX3_init 28 = .ok (.aload_n 0, 1) := by decide +kernel
theorem dX3_init_29 : decode cX3_init 29 = .ok (.bipush 60, 2) := by decide +kernel
theorem dX3_init_31 : decode cX3_init 31 = .ok (.newarray .int, 2) := by decide +kernel
theorem dX3_init_33 : decode cX3_init 33 = .ok (.putfield 19, 3) := by decide +kernel
theorem dX3_init_36 : decode cX3_init 36 = .ok (.aload_n 0, 1) := by decide +kernel
theorem dX3_init_37 : decode cX3_init 37 = .ok (.bipush 60, 2) := by decide +kernel
theorem dX3_init_39 : decode cX3_init 39 = .ok (.newarray .int, 2) := by decide +kernel
theorem dX3_init_41 : decode cX3_init 41 = .ok (.putfield 22, 3) := by decide +kernel
theorem dX3_init_44 : decode cX3_init 44 = .ok (.aload_n 0, 1) := by decide +kernel
theorem dX3_init_45 : decode cX3_init 45 = .ok (.bipush 60, 2) := by decide +kernel
theorem dX3_init_47 : decode cX3_init 47 = .ok (.newarray .boolean, 2) := by decide +kernel
theorem dX3_init_49 : decode cX3_init 49 = .ok (.putfield 25, 3) := by decide +kernel
theorem dX3_init_52 : decode cX3_init 52 = .ok (.aload_n 0, 1) := by decide +kernel
theorem dX3_init_53 : decode cX3_init 53 = .ok (.bipush 60, 2) := by decide +kernel
theorem dX3_init_55 : decode cX3_init 55 = .ok (.newarray .int, 2) := by decide +kernel
theorem dX3_init_57 : decode cX3_init 57 = .ok (.putfield 29, 3) := by decide +kernel
theorem dX3_init_60 : decode cX3_init 60 = .ok (.aload_n 0, 1) := by decide +kernel
theorem dX3_init_61 : decode cX3_init 61 = .ok (.bipush 60, 2) := by decide +kernel
theorem dX3_init_63 : decode cX3_init 63 = .ok (.newarray .int, 2) := by decide +kernel
theorem dX3_init_65 : decode cX3_init 65 = .ok (.putfield 32, 3) := by decide +kernel
theorem dX3_init_68 : decode cX3_init 68 = .ok (.aload_n 0, 1) := by decide +kernel
theorem dX3_init_69 : decode cX3_init 69 = .ok (.bipush 60, 2) := by decide +kernel
theorem dX3_init_71 : decode cX3_init 71 = .ok (.newarray .boolean, 2) := by decide +kernel
theorem dX3_init_73 : decode cX3_init 73 = .ok (.putfield 35, 3) := by decide +kernel
theorem dX3_init_76 : decode cX3_init 76 = .ok (.aload_n 0, 1) := by decide +kernel
theorem dX3_init_77 : decode cX3_init 77 = .ok (.bipush 60, 2) := by decide +kernel
theorem dX3_init_79 : decode cX3_init 79 = .ok (.newarray .int, 2) := by decide +kernel
theorem dX3_init_81 : decode cX3_init 81 = .ok (.putfield 38, 3) := by decide +kernel
theorem dX3_init_84 : decode cX3_init 84 = .ok (.aload_n 0, 1) := by decide +kernel
theorem dX3_init_85 : decode cX3_init 85 = .ok (.bipush 10, 2) := by decide +kernel
theorem dX3_init_87 : decode cX3_init 87 = .ok (.newarray .int, 2) := by decide +kernel
theorem dX3_init_89 : decode cX3_init 89 = .ok (.putfield 41, 3) := by decide +kernel
theorem dX3_init_92 : decode cX3_init 92 = .ok (.aload_n 0, 1) := by decide +kernel
theorem dX3_init_93 : decode cX3_init 93 = .ok (.bipush 10, 2) := by decide +kernel
theorem dX3_init_95 : decode cX3_init 95 = .ok (.newarray .int, 2) := by decide +kernel
theorem dX3_init_97 : decode cX3_init 97 = .ok (.putfield 44, 3) := by decide +kernel
theorem dX3_init_100 : decode cX3_init 100 = .ok (.aload_n 0, 1) := by decide +kernel
theorem dX3_init_101 : decode cX3_init 101 = .ok (.bipush 100, 2) := by decide +kernel
theorem dX3_init_103 : decode cX3_init 103 = .ok (.newarray .int, 2) := by decide +kernel
theorem dX3_init_105 : decode cX3_init 105 = .ok (.putfield 47, 3) := by decide +kernel
theorem dX3_init_108 : decode cX3_init 108 = .ok (.iconst 0, 1) := by decide +kernel
theorem dX3_init_109 : decode cX3_init 109 = .ok (.istore_n 1, 1) := by decide +kernel
theorem dX3_init_110 : decode cX3_init 110 = .ok (.iload_n 1, 1) := by decide +kernel
theorem dX3_init_111 : decode cX3_init 111 = .ok (.bipush 10, 2) := by decide +kernel
theorem dX3_init_113 : decode cX3_init 113 = .ok (.if_icmp .ge 16, 3) := by decide +kernel
theorem dX3_init_116 : decode cX3_init 116 = .ok (.aload_n 0, 1) := by decide +kernel
theorem dX3_init_117 : decode cX3_init 117 = .ok (.getfield 44, 3) := by decide +kernel
theorem dX3_init_120 : decode cX3_init 120 = .ok (.iload_n 1, 1) := by decide +kernel
theorem dX3_init_121 : decode cX3_init 121 = .ok (.iconst (-1), 1) := by decide +kernel
theorem dX3_init_122 : decode cX3_init 122 = .ok (.iastore, 1) := by decide +kernel
theorem dX3_init_123 : decode cX3_init 123 = .ok (.iinc 1 1, 3) := by decide +kernel
theorem dX3_init_126 : decode cX3_init 126 = .ok (.goto (-16), 3) := by decide +kernel
theorem dX3_init_129 : decode cX3_init 129 = .ok (.return_, 1) := by decide +kernel
theorem dX3_thrown_0 : decode cX3_thrown 0 = .ok (.aload_n 0, 1) := by decide +kernel
theorem dX3_thrown_1 : decode cX3_thrown 1 = .ok (.getfield 50, 3) := by decide +kernel
theorem dX3_thrown_4 : decode cX3_thrown 4 = .ok (.ireturn, 1) := by decide +kernel
theorem dX3_can_0 : decode cX3_can 0 = .ok (.aload_n 0, 1) := by decide +kernel
theorem dX3_can_1 : decode cX3_can 1 = .ok (.iload_n 1, 1) := by decide +kernel
theorem dX3_can_2 : decode cX3_can 2 = .ok (.putfield 50, 3) := by decide +kernel
theorem dX3_can_5 : decode cX3_can 5 = .ok (.iload_n 1, 1) := by decide +kernel
theorem dX3_can_6 : decode cX3_can 6 = .ok (.ifCond .ne 7, 3) := by decide +kernel
theorem dX3_can_9 : decode cX3_can 9 = .ok (.iconst 1, 1) := by decide +kernel
theorem dX3_can_10 : decode cX3_can 10 = .ok (.goto 4, 3) := by decide +kernel
theorem dX3_can_13 : decode cX3_can 13 = .ok (.iconst 0, 1) := by decide +kernel
theorem dX3_can_14 : decode cX3_can 14 = .ok (.ireturn, 1) := by decide +kernel
theorem dX3_isIn_0 : decode cX3_isIn 0 = .ok (.iload_n 0, 1) := by decide +kernel
theorem dX3_isIn_1 : decode cX3_isIn 1 = .ok (.iload_n 1, 1) := by decide +kernel
theorem dX3_isIn_2 : decode cX3_isIn 2 = .ok (.if_icmp .lt 12, 3) := by decide +kernel
theorem dX3_isIn_5 : decode cX3_isIn 5 = .ok (.iload_n 0, 1) := by decide +kernel
theorem dX3_isIn_6 : decode cX3_isIn 6 = .ok (.iload_n 2, 1) := by decide +kernel
theorem dX3_isIn_7 : decode cX3_isIn 7 = .ok (.if_icmp .gt 7, 3) := by decide +kernel
theorem dX3_isIn_10 : decode cX3_isIn 10 = .ok (.iconst 1, 1) := by decide +kernel
theorem dX3_isIn_11 : decode cX3_isIn 11 = .ok (.goto 4, 3) := by decide +kernel
theorem dX3_isIn_14 : decode cX3_isIn 14 = .ok (.iconst 0, 1) := by decide +kernel
theorem dX3_isIn_15 : decode cX3_isIn 15 = .ok (.ireturn, 1) := by decide +kernel
theorem dX3_isDisk_0 : decode cX3_isDisk 0 = .ok (.iload_n 1, 1) := by decide +kernel
theorem dX3_isDisk_1 : decode cX3_isDisk 1 = .ok (.iconst 0, 1) := by decide +kernel
theorem dX3_isDisk_2 : decode cX3_isDisk 2 = .ok (.aload_n 0, 1) := by decide +kernel
theorem dX3_isDisk_3 : decode cX3_isDisk 3 = .ok (.getfield 54, 3) := by decide +kernel
theorem dX3_isDisk_6 : decode cX3_isDisk 6 = .ok (.iconst 1, 1) := by decide +kernel
theorem dX3_isDisk_7 : decode cX3_isDisk 7 = .ok (.isub, 1) := by decide +kernel
theorem dX3_isDisk_8 : decode cX3_isDisk 8 = .ok (.invokestatic 57, 3) := by decide +kernel
theorem dX3_isDisk_11 : decode cX3_isDisk 11 = .ok (.ireturn, 1) := by decide +kernel
theorem dX3_isKeeper_0 : decode cX3_isKeeper 0 = .ok (.iload_n 0, 1) := by decide +kernel
theorem dX3_isKeeper_1 : decode cX3_isKeeper 1 = .ok (.iconst 0, 1) := by decide +kernel
theorem dX3_isKeeper_2 : decode cX3_isKeeper 2 = .ok (.bipush 7, 2) := by decide +kernel
theorem dX3_isKeeper_4 : decode cX3_isKeeper 4 = .ok (.invokestatic 57, 3) := by decide +kernel
theorem dX3_isKeeper_7 : decode cX3_isKeeper 7 = .ok (.ireturn, 1) := by decide +kernel
theorem dX3_isCrate_0 : decode cX3_isCrate 0 = .ok (.iload_n 0, 1) := by decide +kernel
theorem dX3_isCrate_1 : decode cX3_isCrate 1 = .ok (.iconst 0, 1) := by decide +kernel
theorem dX3_isCrate_2 : decode cX3_isCrate 2 = .ok (.bipush 9, 2) := by decide +kernel
theorem dX3_isCrate_4 : decode cX3_isCrate 4 = .ok (.invokestatic 57, 3) := by decide +kernel
theorem dX3_isCrate_7 : decode cX3_isCrate 7 = .ok (.ireturn, 1) := by decide +kernel
theorem dX3_isShut_0 : decode cX3_isShut 0 = .ok (.aload_n 0, 1) := by decide +kernel
theorem dX3_isShut_1 : decode cX3_isShut 1 = .ok (.getfield 19, 3) := by decide +kernel
theorem dX3_isShut_4 : decode cX3_isShut 4 = .ok (.iload_n 1, 1) := by decide +kernel
theorem dX3_isShut_5 : decode cX3_isShut 5 = .ok (.iaload, 1) := by decide +kernel
theorem dX3_isShut_6 : decode cX3_isShut 6 = .ok (.iconst (-1), 1) := by decide +kernel
theorem dX3_isShut_7 : decode cX3_isShut 7 = .ok (.if_icmp .eq 22, 3) := by decide +kernel
theorem dX3_isShut_10 : decode cX3_isShut 10 = .ok (.aload_n 0, 1) := by decide +kernel
theorem dX3_isShut_11 : decode cX3_isShut 11 = .ok (.getfield 44, 3) := by decide +kernel
theorem dX3_isShut_14 : decode cX3_isShut 14 = .ok (.aload_n 0, 1) := by decide +kernel
theorem dX3_isShut_15 : decode cX3_isShut 15 = .ok (.getfield 19, 3) := by decide +kernel
theorem dX3_isShut_18 : decode cX3_isShut 18 = .ok (.iload_n 1, 1) := by decide +kernel
theorem dX3_isShut_19 : decode cX3_isShut 19 = .ok (.iaload, 1) := by decide +kernel
theorem dX3_isShut_20 : decode cX3_isShut 20 = .ok (.iaload, 1) := by decide +kernel
theorem dX3_isShut_21 : decode cX3_isShut 21 = .ok (.iconst (-1), 1) := by decide +kernel
theorem dX3_isShut_22 : decode cX3_isShut 22 = .ok (.if_icmp .eq 7, 3) := by decide +kernel
theorem dX3_isShut_25 : decode cX3_isShut 25 = .ok (.iconst 1, 1) := by decide +kernel
theorem dX3_isShut_26 : decode cX3_isShut 26 = .ok (.goto 4, 3) := by decide +kernel
theorem dX3_isShut_29 : decode cX3_isShut 29 = .ok (.iconst 0, 1) := by decide +kernel
theorem dX3_isShut_30 : decode cX3_isShut 30 = .ok (.ireturn, 1) := by decide +kernel
theorem dX3_isBarred_0 : decode cX3_isBarred 0 = .ok (.aload_n 0, 1) := by decide +kernel
theorem dX3_isBarred_1 : decode cX3_isBarred 1 = .ok (.getfield 25, 3) := by decide +kernel
theorem dX3_isBarred_4 : decode cX3_isBarred 4 = .ok (.iload_n 1, 1) := by decide +kernel
theorem dX3_isBarred_5 : decode cX3_isBarred 5 = .ok (.baload, 1) := by decide +kernel
theorem dX3_isBarred_6 : decode cX3_isBarred 6 = .ok (.ifCond .ne 21, 3) := by decide +kernel
theorem dX3_isBarred_9 : decode cX3_isBarred 9 = .ok (.aload_n 0, 1) := by decide +kernel
theorem dX3_isBarred_10 : decode cX3_isBarred 10 = .ok (.getfield 29, 3) := by decide +kernel
theorem dX3_isBarred_13 : decode cX3_isBarred 13 = .ok (.iload_n 1, 1) := by decide +kernel
theorem dX3_isBarred_14 : decode cX3_isBarred 14 = .ok (.iaload, 1) := by decide +kernel
theorem dX3_isBarred_15 : decode cX3_isBarred 15 = .ok (.iconst (-1), 1) := by decide +kernel
theorem dX3_isBarred_16 : decode cX3_isBarred 16 = .ok (.if_icmp .ne 11, 3) := by decide +kernel
theorem dX3_isBarred_19 : decode cX3_isBarred 19 = .ok (.aload_n 0, 1) := by decide +kernel
theorem dX3_isBarred_20 : decode cX3_isBarred 20 = .ok (.iload_n 1, 1) := by decide +kernel
theorem dX3_isBarred_21 : decode cX3_isBarred 21 = .ok (.invokevirtual 61, 3) := by decide +kernel
theorem dX3_isBarred_24 : decode cX3_isBarred 24 = .ok (.ifCond .eq 7, 3) := by decide +kernel
theorem dX3_isBarred_27 : decode cX3_isBarred 27 = .ok (.iconst 1, 1) := by decide +kernel
theorem dX3_isBarred_28 : decode cX3_isBarred 28 = .ok (.goto 4, 3) := by decide +kernel
theorem dX3_isBarred_31 : decode cX3_isBarred 31 = .ok (.iconst 0, 1) := by decide +kernel
theorem dX3_isBarred_32 : decode cX3_isBarred 32 = .ok (.ireturn, 1) := by decide +kernel
theorem dX3_bring_0 : decode cX3_bring 0 = .ok (.iload_n 1, 1) := by decide +kernel
theorem dX3_bring_1 : decode cX3_bring 1 = .ok (.iconst 0, 1) := by decide +kernel
theorem dX3_bring_2 : decode cX3_bring 2 = .ok (.iconst 2, 1) := by decide +kernel
theorem dX3_bring_3 : decode cX3_bring 3 = .ok (.invokestatic 57, 3) := by decide +kernel
theorem dX3_bring_6 : decode cX3_bring 6 = .ok (.ifCond .eq 16, 3) := by decide +kernel
theorem dX3_bring_9 : decode cX3_bring 9 = .ok (.iload_n 2, 1) := by decide +kernel
theorem dX3_bring_10 : decode cX3_bring 10 = .ok (.iconst 0, 1) := by decide +kernel
theorem dX3_bring_11 : decode cX3_bring 11 = .ok (.iconst 3, 1) := by decide +kernel
theorem dX3_bring_12 : decode cX3_bring 12 = .ok (.invokestatic 57, 3) := by decide +kernel
theorem dX3_bring_15 : decode cX3_bring 15 = .ok (.ifCond .eq 7, 3) := by decide +kernel
theorem dX3_bring_18 : decode cX3_bring 18 = .ok (.iconst 1, 1) := by decide +kernel
theorem dX3_bring_19 : decode cX3_bring 19 = .ok (.goto 4, 3) := by decide +kernel
theorem dX3_bring_22 : decode cX3_bring 22 = .ok (.iconst 0, 1) := by decide +kernel
theorem dX3_bring_23 : decode cX3_bring 23 = .ok (.istore 4, 2) := by decide +kernel
theorem dX3_bring_25 : decode cX3_bring 25 = .ok (.aload_n 0, 1) := by decide +kernel
theorem dX3_bring_26 : decode cX3_bring 26 = .ok (.iload_n 3, 1) := by decide +kernel
theorem dX3_bring_27 : decode cX3_bring 27 = .ok (.invokestatic 65, 3) := by decide +kernel
theorem dX3_bring_30 : decode cX3_bring 30 = .ok (.ifCond .ne 7, 3) := by decide +kernel
theorem dX3_bring_33 : decode cX3_bring 33 = .ok (.iconst 1, 1) := by decide +kernel
theorem dX3_bring_34 : decode cX3_bring 34 = .ok (.goto 26, 3) := by decide +kernel
theorem dX3_bring_37 : decode cX3_bring 37 = .ok (.iload 4, 2) := by decide +kernel
theorem dX3_bring_39 : decode cX3_bring 39 = .ok (.ifCond .ne 7, 3) := by decide +kernel
theorem dX3_bring_42 : decode cX3_bring 42 = .ok (.iconst 2, 1) := by decide +kernel
theorem dX3_bring_43 : decode cX3_bring 43 = .ok (.goto 17, 3) := by decide +kernel
theorem dX3_bring_46 : decode cX3_bring 46 = .ok (.aload_n 0, 1) := by decide +kernel
theorem dX3_bring_47 : decode cX3_bring 47 = .ok (.getfield 54, 3) := by decide +kernel
theorem dX3_bring_50 : decode cX3_bring 50 = .ok (.bipush 60, 2) := by decide +kernel
theorem dX3_bring_52 : decode cX3_bring 52 = .ok (.if_icmp .ne 7, 3) := by decide +kernel
theorem dX3_bring_55 : decode cX3_bring 55 = .ok (.iconst 3, 1) := by decide +kernel
theorem dX3_bring_56 : decode cX3_bring 56 = .ok (.goto 4, 3) := by decide +kernel
theorem dX3_bring_59 : decode cX3_bring 59 = .ok (.iconst 0, 1) := by decide +kernel
theorem dX3_bring_60 : decode cX3_bring 60 = .ok (.invokevirtual 68, 3) := by decide +kernel
theorem dX3_bring_63 : decode cX3_bring 63 = .ok (.ifCond .ne 5, 3) := by decide +kernel
theorem dX3_bring_66 : decode cX3_bring 66 = .ok (.iconst 0, 1) := by decide +kernel
theorem dX3_bring_67 : decode cX3_bring 67 = .ok (.ireturn, 1) := by decide +kernel
theorem dX3_bring_68 : decode cX3_bring 68 = .ok (.aload_n 0, 1) := by decide +kernel
theorem dX3_bring_69 : decode cX3_bring 69 = .ok (.getfield 7, 3) := by decide +kernel
theorem dX3_bring_72 : decode cX3_bring 72 = .ok (.aload_n 0, 1) := by decide +kernel
theorem dX3_bring_73 : decode cX3_bring 73 = .ok (.getfield 54, 3) := by decide +kernel
theorem dX3_bring_76 : decode cX3_bring 76 = .ok (.iload_n 1, 1) := by decide +kernel
theorem dX3_bring_77 : decode cX3_bring 77 = .ok (.iastore, 1) := by decide +kernel
theorem dX3_bring_78 : decode cX3_bring 78 = .ok (.aload_n 0, 1) := by decide +kernel
theorem dX3_bring_79 : decode cX3_bring 79 = .ok (.getfield 13, 3) := by decide +kernel
theorem dX3_bring_82 : decode cX3_bring 82 = .ok (.aload_n 0, 1) := by decide +kernel
theorem dX3_bring_83 : decode cX3_bring 83 = .ok (.getfield 54, 3) := by decide +kernel
theorem dX3_bring_86 : decode cX3_bring 86 = .ok (.iload_n 2, 1) := by decide +kernel
theorem dX3_bring_87 : decode cX3_bring 87 = .ok (.iastore, 1) := by decide +kernel
theorem dX3_bring_88 : decode cX3_bring 88 = .ok (.aload_n 0, 1) := by decide +kernel
theorem dX3_bring_89 : decode cX3_bring 89 = .ok (.getfield 16, 3) := by decide +kernel
theorem dX3_bring_92 : decode cX3_bring 92 = .ok (.aload_n 0, 1) := by decide +kernel
theorem dX3_bring_93 : decode cX3_bring 93 = .ok (.getfield 54, 3) := by decide +kernel
theorem dX3_bring_96 : decode cX3_bring 96 = .ok (.iload_n 3, 1) := by decide +kernel
theorem dX3_bring_97 : decode cX3_bring 97 = .ok (.iastore, 1) := by decide +kernel
theorem dX3_bring_98 : decode cX3_bring 98 = .ok (.aload_n 0, 1) := by decide +kernel
theorem dX3_bring_99 : decode cX3_bring 99 = .ok (.getfield 19, 3) := by decide +kernel
theorem dX3_bring_102 : decode cX3_bring 102 = .ok (.aload_n 0, 1) := by decide +kernel
theorem dX3_bring_103 : decode cX3_bring 103 = .ok (.getfield 54, 3) := by decide +kernel
theorem dX3_bring_106 : decode cX3_bring 106 = .ok (.iconst (-1), 1) := by decide +kernel
theorem dX3_bring_107 : decode cX3_bring 107 = .ok (.iastore, 1) := by decide +kernel
theorem dX3_bring_108 : decode cX3_bring 108 = .ok (.aload_n 0, 1) := by decide +kernel
theorem dX3_bring_109 : decode cX3_bring 109 = .ok (.getfield 29, 3) := by decide +kernel
theorem dX3_bring_112 : decode cX3_bring 112 = .ok (.aload_n 0, 1) := by decide +kernel
theorem dX3_bring_113 : decode cX3_bring 113 = .ok (.getfield 54, 3) := by decide +kernel
theorem dX3_bring_116 : decode cX3_bring 116 = .ok (.iconst (-1), 1) := by decide +kernel
theorem dX3_bring_117 : decode cX3_bring 117 = .ok (.iastore, 1) := by decide +kernel
theorem dX3_bring_118 : decode cX3_bring 118 = .ok (.aload_n 0, 1) := by decide +kernel
theorem dX3_bring_119 : decode cX3_bring 119 = .ok (.getfield 32, 3) := by decide +kernel
theorem dX3_bring_122 : decode cX3_bring 122 = .ok (.aload_n 0, 1) := by decide +kernel
theorem dX3_bring_123 : decode cX3_bring 123 = .ok (.getfield 54, 3) := by decide +kernel
theorem dX3_bring_126 : decode cX3_bring 126 = .ok (.iconst (-1), 1) := by decide +kernel
theorem dX3_bring_127 : decode cX3_bring 127 = .ok (.iastore, 1) := by decide +kernel
theorem dX3_bring_128 : decode cX3_bring 128 = .ok (.aload_n 0, 1) := by decide +kernel
theorem dX3_bring_129 : decode cX3_bring 129 = .ok (.getfield 38, 3) := by decide +kernel
theorem dX3_bring_132 : decode cX3_bring 132 = .ok (.aload_n 0, 1) := by decide +kernel
theorem dX3_bring_133 : decode cX3_bring 133 = .ok (.getfield 54, 3) := by decide +kernel
theorem dX3_bring_136 : decode cX3_bring 136 = .ok (.iconst (-1), 1) := by decide +kernel
theorem dX3_bring_137 : decode cX3_bring 137 = .ok (.iastore, 1) := by decide +kernel
theorem dX3_bring_138 : decode cX3_bring 138 = .ok (.aload_n 0, 1) := by decide +kernel
theorem dX3_bring_139 : decode cX3_bring 139 = .ok (.dup, 1) := by decide +kernel
theorem dX3_bring_140 : decode cX3_bring 140 = .ok (.getfield 54, 3) := by decide +kernel
theorem dX3_bring_143 : decode cX3_bring 143 = .ok (.iconst 1, 1) := by decide +kernel
theorem dX3_bring_144 : decode cX3_bring 144 = .ok (.iadd, 1) := by decide +kernel
theorem dX3_bring_145 : decode cX3_bring 145 = .ok (.putfield 54, 3) := by decide +kernel
theorem dX3_bring_148 : decode cX3_bring 148 = .ok (.aload_n 0, 1) := by decide +kernel
theorem dX3_bring_149 : decode cX3_bring 149 = .ok (.dup, 1) := by decide +kernel
theorem dX3_bring_150 : decode cX3_bring 150 = .ok (.getfield 71, 3) := by decide +kernel
theorem dX3_bring_153 : decode cX3_bring 153 = .ok (.iconst 1, 1) := by decide +kernel
theorem dX3_bring_154 : decode cX3_bring 154 = .ok (.iadd, 1) := by decide +kernel
theorem dX3_bring_155 : decode cX3_bring 155 = .ok (.putfield 71, 3) := by decide +kernel
theorem dX3_bring_158 : decode cX3_bring 158 = .ok (.aload_n 0, 1) := by decide +kernel
theorem dX3_bring_159 : decode cX3_bring 159 = .ok (.getfield 54, 3) := by decide +kernel
theorem dX3_bring_162 : decode cX3_bring 162 = .ok (.iconst 1, 1) := by decide +kernel
theorem dX3_bring_163 : decode cX3_bring 163 = .ok (.isub, 1) := by decide +kernel
theorem dX3_bring_164 : decode cX3_bring 164 = .ok (.ireturn, 1) := by decide +kernel
theorem dX3_offer_0 : decode cX3_offer 0 = .ok (.aload_n 0, 1) := by decide +kernel
theorem dX3_offer_1 : decode cX3_offer 1 = .ok (.aload_n 0, 1) := by decide +kernel
theorem dX3_offer_2 : decode cX3_offer 2 = .ok (.iload_n 1, 1) := by decide +kernel
theorem dX3_offer_3 : decode cX3_offer 3 = .ok (.invokevirtual 74, 3) := by decide +kernel
theorem dX3_offer_6 : decode cX3_offer 6 = .ok (.ifCond .eq 10, 3) := by decide +kernel
theorem dX3_offer_9 : decode cX3_offer 9 = .ok (.iload_n 2, 1) := by decide +kernel
theorem dX3_offer_10 : decode cX3_offer 10 = .ok (.invokestatic 65, 3) := by decide +kernel
theorem dX3_offer_13 : decode cX3_offer 13 = .ok (.ifCond .ne 7, 3) := by decide +kernel
theorem dX3_offer_16 : decode cX3_offer 16 = .ok (.iconst 1, 1) := by decide +kernel
theorem dX3_offer_17 : decode cX3_offer 17 = .ok (.goto 40, 3) := by decide +kernel
theorem dX3_offer_20 : decode cX3_offer 20 = .ok (.iload_n 2, 1) := by decide +kernel
theorem dX3_offer_21 : decode cX3_offer 21 = .ok (.aload_n 0, 1) := by decide +kernel
theorem dX3_offer_22 : decode cX3_offer 22 = .ok (.getfield 16, 3) := by decide +kernel
theorem dX3_offer_25 : decode cX3_offer 25 = .ok (.iload_n 1, 1) := by decide +kernel
theorem dX3_offer_26 : decode cX3_offer 26 = .ok (.iaload, 1) := by decide +kernel
theorem dX3_offer_27 : decode cX3_offer 27 = .ok (.if_icmp .ne 7, 3) := by decide +kernel
theorem dX3_offer_30 : decode cX3_offer 30 = .ok (.iconst 2, 1) := by decide +kernel
theorem dX3_offer_31 : decode cX3_offer 31 = .ok (.goto 26, 3) := by decide +kernel
theorem dX3_offer_34 : decode cX3_offer 34 = .ok (.aload_n 0, 1) := by decide +kernel
theorem dX3_offer_35 : decode cX3_offer 35 = .ok (.iload_n 1, 1) := by decide +kernel
theorem dX3_offer_36 : decode cX3_offer 36 = .ok (.invokevirtual 77, 3) := by decide +kernel
theorem dX3_offer_39 : decode cX3_offer 39 = .ok (.ifCond .ne 13, 3) := by decide +kernel
theorem dX3_offer_42 : decode cX3_offer 42 = .ok (.aload_n 0, 1) := by decide +kernel
theorem dX3_offer_43 : decode cX3_offer 43 = .ok (.getfield 19, 3) := by decide +kernel
theorem dX3_offer_46 : decode cX3_offer 46 = .ok (.iload_n 1, 1) := by decide +kernel
theorem dX3_offer_47 : decode cX3_offer 47 = .ok (.iaload, 1) := by decide +kernel
theorem dX3_offer_48 : decode cX3_offer 48 = .ok (.iconst (-1), 1) := by decide +kernel
theorem dX3_offer_49 : decode cX3_offer 49 = .ok (.if_icmp .eq 7, 3) := by decide +kernel
theorem dX3_offer_52 : decode cX3_offer 52 = .ok (.iconst 3, 1) := by decide +kernel
theorem dX3_offer_53 : decode cX3_offer 53 = .ok (.goto 4, 3) := by decide +kernel
theorem dX3_offer_56 : decode cX3_offer 56 = .ok (.iconst 0, 1) := by decide +kernel
theorem dX3_offer_57 : decode cX3_offer 57 = .ok (.invokevirtual 68, 3) := by decide +kernel
theorem dX3_offer_60 : decode cX3_offer 60 = .ok (.ifCond .ne 5, 3) := by decide +kernel
theorem dX3_offer_63 : decode cX3_offer 63 = .ok (.iconst 0, 1) := by decide +kernel
theorem dX3_offer_64 : decode cX3_offer 64 = .ok (.ireturn, 1) := by decide +kernel
theorem dX3_offer_65 : decode cX3_offer 65 = .ok (.aload_n 0, 1) := by decide +kernel
theorem dX3_offer_66 : decode cX3_offer 66 = .ok (.getfield 29, 3) := by decide +kernel
theorem dX3_offer_69 : decode cX3_offer 69 = .ok (.iload_n 1, 1) := by decide +kernel
theorem dX3_offer_70 : decode cX3_offer 70 = .ok (.iload_n 2, 1) := by decide +kernel
theorem dX3_offer_71 : decode cX3_offer 71 = .ok (.iastore, 1) := by decide +kernel
theorem dX3_offer_72 : decode cX3_offer 72 = .ok (.aload_n 0, 1) := by decide +kernel
theorem dX3_offer_73 : decode cX3_offer 73 = .ok (.getfield 16, 3) := by decide +kernel
theorem dX3_offer_76 : decode cX3_offer 76 = .ok (.iload_n 1, 1) := by decide +kernel
theorem dX3_offer_77 : decode cX3_offer 77 = .ok (.iaload, 1) := by decide +kernel
theorem dX3_offer_78 : decode cX3_offer 78 = .ok (.ireturn, 1) := by decide +kernel
theorem dX3_answer_0 : decode cX3_answer 0 = .ok (.aload_n 0, 1) := by decide +kernel
theorem dX3_answer_1 : decode cX3_answer 1 = .ok (.aload_n 0, 1) := by decide +kernel
theorem dX3_answer_2 : decode cX3_answer 2 = .ok (.iload_n 1, 1) := by decide +kernel
theorem dX3_answer_3 : decode cX3_answer 3 = .ok (.invokevirtual 74, 3) := by decide +kernel
theorem dX3_answer_6 : decode cX3_answer 6 = .ok (.ifCond .ne 7, 3) := by decide +kernel
theorem dX3_answer_9 : decode cX3_answer 9 = .ok (.iconst 1, 1) := by decide +kernel
theorem dX3_answer_10 : decode cX3_answer 10 = .ok (.goto 27, 3) := by decide +kernel
theorem dX3_answer_13 : decode cX3_answer 13 = .ok (.aload_n 0, 1) := by decide +kernel
theorem dX3_answer_14 : decode cX3_answer 14 = .ok (.getfield 25, 3) := by decide +kernel
theorem dX3_answer_17 : decode cX3_answer 17 = .ok (.iload_n 1, 1) := by decide +kernel
theorem dX3_answer_18 : decode cX3_answer 18 = .ok (.baload, 1) := by decide +kernel
theorem dX3_answer_19 : decode cX3_answer 19 = .ok (.ifCond .ne 13, 3) := by decide +kernel
theorem dX3_answer_22 : decode cX3_answer 22 = .ok (.aload_n 0, 1) := by decide +kernel
theorem dX3_answer_23 : decode cX3_answer 23 = .ok (.getfield 29, 3) := by decide +kernel
theorem dX3_answer_26 : decode cX3_answer 26 = .ok (.iload_n 1, 1) := by decide +kernel
theorem dX3_answer_27 : decode cX3_answer 27 = .ok (.iaload, 1) := by decide +kernel
theorem dX3_answer_28 : decode cX3_answer 28 = .ok (.iconst (-1), 1) := by decide +kernel
theorem dX3_answer_29 : decode cX3_answer 29 = .ok (.if_icmp .ne 7, 3) := by decide +kernel
theorem dX3_answer_32 : decode cX3_answer 32 = .ok (.iconst 2, 1) := by decide +kernel
theorem dX3_answer_33 : decode cX3_answer 33 = .ok (.goto 4, 3) := by decide +kernel
theorem dX3_answer_36 : decode cX3_answer 36 = .ok (.iconst 0, 1) := by decide +kernel
theorem dX3_answer_37 : decode cX3_answer 37 = .ok (.invokevirtual 68, 3) := by decide +kernel
theorem dX3_answer_40 : decode cX3_answer 40 = .ok (.ifCond .ne 5, 3) := by decide +kernel
theorem dX3_answer_43 : decode cX3_answer 43 = .ok (.iconst 0, 1) := by decide +kernel
theorem dX3_answer_44 : decode cX3_answer 44 = .ok (.ireturn, 1) := by decide +kernel
theorem dX3_answer_45 : decode cX3_answer 45 = .ok (.iload_n 2, 1) := by decide +kernel
theorem dX3_answer_46 : decode cX3_answer 46 = .ok (.ifCond .eq 25, 3) := by decide +kernel
theorem dX3_answer_49 : decode cX3_answer 49 = .ok (.aload_n 0, 1) := by decide +kernel
theorem dX3_answer_50 : decode cX3_answer 50 = .ok (.getfield 16, 3) := by decide +kernel
theorem dX3_answer_53 : decode cX3_answer 53 = .ok (.iload_n 1, 1) := by decide +kernel
theorem dX3_answer_54 : decode cX3_answer 54 = .ok (.aload_n 0, 1) := by decide +kernel
theorem dX3_answer_55 : decode cX3_answer 55 = .ok (.getfield 29, 3) := by decide +kernel
theorem dX3_answer_58 : decode cX3_answer 58 = .ok (.iload_n 1, 1) := by decide +kernel
theorem dX3_answer_59 : decode cX3_answer 59 = .ok (.iaload, 1) := by decide +kernel
theorem dX3_answer_60 : decode cX3_answer 60 = .ok (.iastore, 1) := by decide +kernel
theorem dX3_answer_61 : decode cX3_answer 61 = .ok (.aload_n 0, 1) := by decide +kernel
theorem dX3_answer_62 : decode cX3_answer 62 = .ok (.dup, 1) := by decide +kernel
theorem dX3_answer_63 : decode cX3_answer 63 = .ok (.getfield 71, 3) := by decide +kernel
theorem dX3_answer_66 : decode cX3_answer 66 = .ok (.iconst 1, 1) := by decide +kernel
theorem dX3_answer_67 : decode cX3_answer 67 = .ok (.iadd, 1) := by decide +kernel
theorem dX3_answer_68 : decode cX3_answer 68 = .ok (.putfield 71, 3) := by decide +kernel
theorem dX3_answer_71 : decode cX3_answer 71 = .ok (.aload_n 0, 1) := by decide +kernel
theorem dX3_answer_72 : decode cX3_answer 72 = .ok (.getfield 29, 3) := by decide +kernel
theorem dX3_answer_75 : decode cX3_answer 75 = .ok (.iload_n 1, 1) := by decide +kernel
theorem dX3_answer_76 : decode cX3_answer 76 = .ok (.iconst (-1), 1) := by decide +kernel
theorem dX3_answer_77 : decode cX3_answer 77 = .ok (.iastore, 1) := by decide +kernel
theorem dX3_answer_78 : decode cX3_answer 78 = .ok (.aload_n 0, 1) := by decide +kernel
theorem dX3_answer_79 : decode cX3_answer 79 = .ok (.getfield 16, 3) := by decide +kernel
theorem dX3_answer_82 : decode cX3_answer 82 = .ok (.iload_n 1, 1) := by decide +kernel
theorem dX3_answer_83 : decode cX3_answer 83 = .ok (.iaload, 1) := by decide +kernel
theorem dX3_answer_84 : decode cX3_answer 84 = .ok (.ireturn, 1) := by decide +kernel
theorem dX3_countIn_0 : decode cX3_countIn 0 = .ok (.iconst 0, 1) := by decide +kernel
theorem dX3_countIn_1 : decode cX3_countIn 1 = .ok (.istore_n 2, 1) := by decide +kernel
theorem dX3_countIn_2 : decode cX3_countIn 2 = .ok (.iconst 0, 1) := by decide +kernel
theorem dX3_countIn_3 : decode cX3_countIn 3 = .ok (.istore_n 3, 1) := by decide +kernel
theorem dX3_countIn_4 : decode cX3_countIn 4 = .ok (.iload_n 3, 1) := by decide +kernel
theorem dX3_countIn_5 : decode cX3_countIn 5 = .ok (.aload_n 0, 1) := by decide +kernel
theorem dX3_countIn_6 : decode cX3_countIn 6 = .ok (.getfield 54, 3) := by decide +kernel
theorem dX3_countIn_9 : decode cX3_countIn 9 = .ok (.if_icmp .ge 27, 3) := by decide +kernel
theorem dX3_countIn_12 : decode cX3_countIn 12 = .ok (.iload_n 2, 1) := by decide +kernel
theorem dX3_countIn_13 : decode cX3_countIn 13 = .ok (.aload_n 0, 1) := by decide +kernel
theorem dX3_countIn_14 : decode cX3_countIn 14 = .ok (.getfield 19, 3) := by decide +kernel
theorem dX3_countIn_17 : decode cX3_countIn 17 = .ok (.iload_n 3, 1) := by decide +kernel
theorem dX3_countIn_18 : decode cX3_countIn 18 = .ok (.iaload, 1) := by decide +kernel
theorem dX3_countIn_19 : decode cX3_countIn 19 = .ok (.iload_n 1, 1) := by decide +kernel
theorem dX3_countIn_20 : decode cX3_countIn 20 = .ok (.if_icmp .ne 7, 3) := by decide +kernel
theorem dX3_countIn_23 : decode cX3_countIn 23 = .ok (.iconst 1, 1) := by decide +kernel
theorem dX3_countIn_24 : decode cX3_countIn 24 = .ok (.goto 4, 3) := by decide +kernel
theorem dX3_countIn_27 : decode cX3_countIn 27 = .ok (.iconst 0, 1) := by decide +kernel
theorem dX3_countIn_28 : decode cX3_countIn 28 = .ok (.iadd, 1) := by decide +kernel
theorem dX3_countIn_29 : decode cX3_countIn 29 = .ok (.istore_n 2, 1) := by decide +kernel
theorem dX3_countIn_30 : decode cX3_countIn 30 = .ok (.iinc 3 1, 3) := by decide +kernel
theorem dX3_countIn_33 : decode cX3_countIn 33 = .ok (.goto (-29), 3) := by decide +kernel
theorem dX3_countIn_36 : decode cX3_countIn 36 = .ok (.iload_n 2, 1) := by decide +kernel
theorem dX3_countIn_37 : decode cX3_countIn 37 = .ok (.ireturn, 1) := by decide +kernel
theorem dX3_pack_0 : decode cX3_pack 0 = .ok (.aload_n 0, 1) := by decide +kernel
theorem dX3_pack_1 : decode cX3_pack 1 = .ok (.iload_n 1, 1) := by decide +kernel
theorem dX3_pack_2 : decode cX3_pack 2 = .ok (.invokevirtual 74, 3) := by decide +kernel
theorem dX3_pack_5 : decode cX3_pack 5 = .ok (.ifCond .eq 14, 3) := by decide +kernel
theorem dX3_pack_8 : decode cX3_pack 8 = .ok (.iload_n 2, 1) := by decide +kernel
theorem dX3_pack_9 : decode cX3_pack 9 = .ok (.invokestatic 80, 3) := by decide +kernel
theorem dX3_pack_12 : decode cX3_pack 12 = .ok (.ifCond .eq 7, 3) := by decide +kernel
theorem dX3_pack_15 : decode cX3_pack 15 = .ok (.iconst 1, 1) := by decide +kernel
theorem dX3_pack_16 : decode cX3_pack 16 = .ok (.goto 4, 3) := by decide +kernel
theorem dX3_pack_19 : decode cX3_pack 19 = .ok (.iconst 0, 1) := by decide +kernel
theorem dX3_pack_20 : decode cX3_pack 20 = .ok (.istore_n 3, 1) := by decide +kernel
theorem dX3_pack_21 : decode cX3_pack 21 = .ok (.iload_n 3, 1) := by decide +kernel
theorem dX3_pack_22 : decode cX3_pack 22 = .ok (.ifCond .eq 50, 3) := by decide +kernel
theorem dX3_pack_25 : decode cX3_pack 25 = .ok (.aload_n 0, 1) := by decide +kernel
theorem dX3_pack_26 : decode cX3_pack 26 = .ok (.iload_n 1, 1) := by decide +kernel
theorem dX3_pack_27 : decode cX3_pack 27 = .ok (.invokevirtual 77, 3) := by decide +kernel
theorem dX3_pack_30 : decode cX3_pack 30 = .ok (.ifCond .ne 42, 3) := by decide +kernel
theorem dX3_pack_33 : decode cX3_pack 33 = .ok (.aload_n 0, 1) := by decide +kernel
theorem dX3_pack_34 : decode cX3_pack 34 = .ok (.getfield 19, 3) := by decide +kernel
theorem dX3_pack_37 : decode cX3_pack 37 = .ok (.iload_n 1, 1) := by decide +kernel
theorem dX3_pack_38 : decode cX3_pack 38 = .ok (.iaload, 1) := by decide +kernel
theorem dX3_pack_39 : decode cX3_pack 39 = .ok (.iconst (-1), 1) := by decide +kernel
theorem dX3_pack_40 : decode cX3_pack 40 = .ok (.if_icmp .ne 32, 3) := by decide +kernel
theorem dX3_pack_43 : decode cX3_pack 43 = .ok (.aload_n 0, 1) := by decide +kernel
theorem dX3_pack_44 : decode cX3_pack 44 = .ok (.getfield 44, 3) := by decide +kernel
theorem dX3_pack_47 : decode cX3_pack 47 = .ok (.iload_n 2, 1) := by decide +kernel
theorem dX3_pack_48 : decode cX3_pack 48 = .ok (.iaload, 1) := by decide +kernel
theorem dX3_pack_49 : decode cX3_pack 49 = .ok (.iconst (-1), 1) := by decide +kernel
theorem dX3_pack_50 : decode cX3_pack 50 = .ok (.if_icmp .ne 22, 3) := by decide +kernel
theorem dX3_pack_53 : decode cX3_pack 53 = .ok (.aload_n 0, 1) := by decide +kernel
theorem dX3_pack_54 : decode cX3_pack 54 = .ok (.getfield 41, 3) := by decide +kernel
theorem dX3_pack_57 : decode cX3_pack 57 = .ok (.iload_n 2, 1) := by decide +kernel
theorem dX3_pack_58 : decode cX3_pack 58 = .ok (.iaload, 1) := by decide +kernel
theorem dX3_pack_59 : decode cX3_pack 59 = .ok (.aload_n 0, 1) := by decide +kernel
theorem dX3_pack_60 : decode cX3_pack 60 = .ok (.getfield 16, 3) := by decide +kernel
theorem dX3_pack_63 : decode cX3_pack 63 = .ok (.iload_n 1, 1) := by decide +kernel
theorem dX3_pack_64 : decode cX3_pack 64 = .ok (.iaload, 1) := by decide +kernel
theorem dX3_pack_65 : decode cX3_pack 65 = .ok (.if_icmp .ne 7, 3) := by decide +kernel
theorem dX3_pack_68 : decode cX3_pack 68 = .ok (.iconst 1, 1) := by decide +kernel
theorem dX3_pack_69 : decode cX3_pack 69 = .ok (.goto 4, 3) := by decide +kernel
theorem dX3_pack_72 : decode cX3_pack 72 = .ok (.iconst 0, 1) := by decide +kernel
theorem dX3_pack_73 : decode cX3_pack 73 = .ok (.istore 4, 2) := by decide +kernel
theorem dX3_pack_75 : decode cX3_pack 75 = .ok (.aload_n 0, 1) := by decide +kernel
theorem dX3_pack_76 : decode cX3_pack 76 = .ok (.iload_n 3, 1) := by decide +kernel
theorem dX3_pack_77 : decode cX3_pack 77 = .ok (.ifCond .ne 7, 3) := by decide +kernel
theorem dX3_pack_80 : decode cX3_pack 80 = .ok (.iconst 1, 1) := by decide +kernel
theorem dX3_pack_81 : decode cX3_pack 81 = .ok (.goto 13, 3) := by decide +kernel
theorem dX3_pack_84 : decode cX3_pack 84 = .ok (.iload 4, 2) := by decide +kernel
theorem dX3_pack_86 : decode cX3_pack 86 = .ok (.ifCond .eq 7, 3) := by decide +kernel
theorem dX3_pack_89 : decode cX3_pack 89 = .ok (.iconst 0, 1) := by decide +kernel
theorem dX3_pack_90 : decode cX3_pack 90 = .ok (.goto 4, 3) := by decide +kernel
theorem dX3_pack_93 : decode cX3_pack 93 = .ok (.iconst 2, 1) := by decide +kernel
theorem dX3_pack_94 : decode cX3_pack 94 = .ok (.invokevirtual 68, 3) := by decide +kernel
theorem dX3_pack_97 : decode cX3_pack 97 = .ok (.ifCond .ne 5, 3) := by decide +kernel
theorem dX3_pack_100 : decode cX3_pack 100 = .ok (.iconst 0, 1) := by decide +kernel
theorem dX3_pack_101 : decode cX3_pack 101 = .ok (.ireturn, 1) := by decide +kernel
theorem dX3_pack_102 : decode cX3_pack 102 = .ok (.aload_n 0, 1) := by decide +kernel
theorem dX3_pack_103 : decode cX3_pack 103 = .ok (.getfield 19, 3) := by decide +kernel
theorem dX3_pack_106 : decode cX3_pack 106 = .ok (.iload_n 1, 1) := by decide +kernel
theorem dX3_pack_107 : decode cX3_pack 107 = .ok (.iload_n 2, 1) := by decide +kernel
theorem dX3_pack_108 : decode cX3_pack 108 = .ok (.iastore, 1) := by decide +kernel
theorem dX3_pack_109 : decode cX3_pack 109 = .ok (.aload_n 0, 1) := by decide +kernel
theorem dX3_pack_110 : decode cX3_pack 110 = .ok (.iload_n 2, 1) := by decide +kernel
theorem dX3_pack_111 : decode cX3_pack 111 = .ok (.invokevirtual 83, 3) := by decide +kernel
theorem dX3_pack_114 : decode cX3_pack 114 = .ok (.ireturn, 1) := by decide +kernel
theorem dX3_unpack_0 : decode cX3_unpack 0 = .ok (.aload_n 0, 1) := by decide +kernel
theorem dX3_unpack_1 : decode cX3_unpack 1 = .ok (.aload_n 0, 1) := by decide +kernel
theorem dX3_unpack_2 : decode cX3_unpack 2 = .ok (.iload_n 1, 1) := by decide +kernel
theorem dX3_unpack_3 : decode cX3_unpack 3 = .ok (.invokevirtual 74, 3) := by decide +kernel
theorem dX3_unpack_6 : decode cX3_unpack 6 = .ok (.ifCond .ne 7, 3) := by decide +kernel
theorem dX3_unpack_9 : decode cX3_unpack 9 = .ok (.iconst 1, 1) := by decide +kernel
theorem dX3_unpack_10 : decode cX3_unpack 10 = .ok (.goto 35, 3) := by decide +kernel
theorem dX3_unpack_13 : decode cX3_unpack 13 = .ok (.aload_n 0, 1) := by decide +kernel
theorem dX3_unpack_14 : decode cX3_unpack 14 = .ok (.getfield 25, 3) := by decide +kernel
theorem dX3_unpack_17 : decode cX3_unpack 17 = .ok (.iload_n 1, 1) := by decide +kernel
theorem dX3_unpack_18 : decode cX3_unpack 18 = .ok (.baload, 1) := by decide +kernel
theorem dX3_unpack_19 : decode cX3_unpack 19 = .ok (.ifCond .ne 21, 3) := by decide +kernel
theorem dX3_unpack_22 : decode cX3_unpack 22 = .ok (.aload_n 0, 1) := by decide +kernel
theorem dX3_unpack_23 : decode cX3_unpack 23 = .ok (.getfield 19, 3) := by decide +kernel
theorem dX3_unpack_26 : decode cX3_unpack 26 = .ok (.iload_n 1, 1) := by decide +kernel
theorem dX3_unpack_27 : decode cX3_unpack 27 = .ok (.iaload, 1) := by decide +kernel
theorem dX3_unpack_28 : decode cX3_unpack 28 = .ok (.iconst (-1), 1) := by decide +kernel
theorem dX3_unpack_29 : decode cX3_unpack 29 = .ok (.if_icmp .eq 11, 3) := by decide +kernel
theorem dX3_unpack_32 : decode cX3_unpack 32 = .ok (.aload_n 0, 1) := by decide +kernel
theorem dX3_unpack_33 : decode cX3_unpack 33 = .ok (.iload_n 1, 1) := by decide +kernel
theorem dX3_unpack_34 : decode cX3_unpack 34 = .ok (.invokevirtual 61, 3) := by decide +kernel
theorem dX3_unpack_37 : decode cX3_unpack 37 = .ok (.ifCond .eq 7, 3) := by decide +kernel
theorem dX3_unpack_40 : decode cX3_unpack 40 = .ok (.iconst 2, 1) := by decide +kernel
theorem dX3_unpack_41 : decode cX3_unpack 41 = .ok (.goto 4, 3) := by decide +kernel
theorem dX3_unpack_44 : decode cX3_unpack 44 = .ok (.iconst 0, 1) := by decide +kernel
theorem dX3_unpack_45 : decode cX3_unpack 45 = .ok (.invokevirtual 68, 3) := by decide +kernel
theorem dX3_unpack_48 : decode cX3_unpack 48 = .ok (.ifCond .ne 5, 3) := by decide +kernel
theorem dX3_unpack_51 : decode cX3_unpack 51 = .ok (.iconst 0, 1) := by decide +kernel
theorem dX3_unpack_52 : decode cX3_unpack 52 = .ok (.ireturn, 1) := by decide +kernel
theorem dX3_unpack_53 : decode cX3_unpack 53 = .ok (.aload_n 0, 1) := by decide +kernel
theorem dX3_unpack_54 : decode cX3_unpack 54 = .ok (.getfield 19, 3) := by decide +kernel
theorem dX3_unpack_57 : decode cX3_unpack 57 = .ok (.iload_n 1, 1) := by decide +kernel
theorem dX3_unpack_58 : decode cX3_unpack 58 = .ok (.iaload, 1) := by decide +kernel
theorem dX3_unpack_59 : decode cX3_unpack 59 = .ok (.istore_n 2, 1) := by decide +kernel
theorem dX3_unpack_60 : decode cX3_unpack 60 = .ok (.aload_n 0, 1) := by decide +kernel
theorem dX3_unpack_61 : decode cX3_unpack 61 = .ok (.getfield 19, 3) := by decide +kernel
theorem dX3_unpack_64 : decode cX3_unpack 64 = .ok (.iload_n 1, 1) := by decide +kernel
theorem dX3_unpack_65 : decode cX3_unpack 65 = .ok (.iconst (-1), 1) := by decide +kernel
theorem dX3_unpack_66 : decode cX3_unpack 66 = .ok (.iastore, 1) := by decide +kernel
theorem dX3_unpack_67 : decode cX3_unpack 67 = .ok (.iload_n 2, 1) := by decide +kernel
theorem dX3_unpack_68 : decode cX3_unpack 68 = .ok (.ireturn, 1) := by decide +kernel
theorem dX3_seal_0 : decode cX3_seal 0 = .ok (.aload_n 0, 1) := by decide +kernel
theorem dX3_seal_1 : decode cX3_seal 1 = .ok (.iload_n 1, 1) := by decide +kernel
theorem dX3_seal_2 : decode cX3_seal 2 = .ok (.invokestatic 80, 3) := by decide +kernel
theorem dX3_seal_5 : decode cX3_seal 5 = .ok (.ifCond .ne 7, 3) := by decide +kernel
theorem dX3_seal_8 : decode cX3_seal 8 = .ok (.iconst 1, 1) := by decide +kernel
theorem dX3_seal_9 : decode cX3_seal 9 = .ok (.goto 27, 3) := by decide +kernel
theorem dX3_seal_12 : decode cX3_seal 12 = .ok (.aload_n 0, 1) := by decide +kernel
theorem dX3_seal_13 : decode cX3_seal 13 = .ok (.getfield 44, 3) := by decide +kernel
theorem dX3_seal_16 : decode cX3_seal 16 = .ok (.iload_n 1, 1) := by decide +kernel
theorem dX3_seal_17 : decode cX3_seal 17 = .ok (.iaload, 1) := by decide +kernel
theorem dX3_seal_18 : decode cX3_seal 18 = .ok (.iconst (-1), 1) := by decide +kernel
theorem dX3_seal_19 : decode cX3_seal 19 = .ok (.if_icmp .ne 12, 3) := by decide +kernel
theorem dX3_seal_22 : decode cX3_seal 22 = .ok (.aload_n 0, 1) := by decide +kernel
theorem dX3_seal_23 : decode cX3_seal 23 = .ok (.getfield 87, 3) := by decide +kernel
theorem dX3_seal_26 : decode cX3_seal 26 = .ok (.bipush 100, 2) := by decide +kernel
theorem dX3_seal_28 : decode cX3_seal 28 = .ok (.if_icmp .ne 7, 3) := by decide +kernel
theorem dX3_seal_31 : decode cX3_seal 31 = .ok (.iconst 2, 1) := by decide +kernel
theorem dX3_seal_32 : decode cX3_seal 32 = .ok (.goto 4, 3) := by decide +kernel
theorem dX3_seal_35 : decode cX3_seal 35 = .ok (.iconst 0, 1) := by decide +kernel
theorem dX3_seal_36 : decode cX3_seal 36 = .ok (.invokevirtual 68, 3) := by decide +kernel
theorem dX3_seal_39 : decode cX3_seal 39 = .ok (.ifCond .ne 5, 3) := by decide +kernel
theorem dX3_seal_42 : decode cX3_seal 42 = .ok (.iconst 0, 1) := by decide +kernel
theorem dX3_seal_43 : decode cX3_seal 43 = .ok (.ireturn, 1) := by decide +kernel
theorem dX3_seal_44 : decode cX3_seal 44 = .ok (.aload_n 0, 1) := by decide +kernel
theorem dX3_seal_45 : decode cX3_seal 45 = .ok (.getfield 44, 3) := by decide +kernel
theorem dX3_seal_48 : decode cX3_seal 48 = .ok (.iload_n 1, 1) := by decide +kernel
theorem dX3_seal_49 : decode cX3_seal 49 = .ok (.aload_n 0, 1) := by decide +kernel
theorem dX3_seal_50 : decode cX3_seal 50 = .ok (.getfield 87, 3) := by decide +kernel
theorem dX3_seal_53 : decode cX3_seal 53 = .ok (.iastore, 1) := by decide +kernel
theorem dX3_seal_54 : decode cX3_seal 54 = .ok (.aload_n 0, 1) := by decide +kernel
theorem dX3_seal_55 : decode cX3_seal 55 = .ok (.getfield 47, 3) := by decide +kernel
theorem dX3_seal_58 : decode cX3_seal 58 = .ok (.aload_n 0, 1) := by decide +kernel
theorem dX3_seal_59 : decode cX3_seal 59 = .ok (.getfield 87, 3) := by decide +kernel
theorem dX3_seal_62 : decode cX3_seal 62 = .ok (.aload_n 0, 1) := by decide +kernel
theorem dX3_seal_63 : decode cX3_seal 63 = .ok (.iload_n 1, 1) := by decide +kernel
theorem dX3_seal_64 : decode cX3_seal 64 = .ok (.invokevirtual 83, 3) := by decide +kernel
theorem dX3_seal_67 : decode cX3_seal 67 = .ok (.iastore, 1) := by decide +kernel
theorem dX3_seal_68 : decode cX3_seal 68 = .ok (.aload_n 0, 1) := by decide +kernel
theorem dX3_seal_69 : decode cX3_seal 69 = .ok (.dup, 1) := by decide +kernel
theorem dX3_seal_70 : decode cX3_seal 70 = .ok (.getfield 87, 3) := by decide +kernel
theorem dX3_seal_73 : decode cX3_seal 73 = .ok (.iconst 1, 1) := by decide +kernel
theorem dX3_seal_74 : decode cX3_seal 74 = .ok (.iadd, 1) := by decide +kernel
theorem dX3_seal_75 : decode cX3_seal 75 = .ok (.putfield 87, 3) := by decide +kernel
theorem dX3_seal_78 : decode cX3_seal 78 = .ok (.aload_n 0, 1) := by decide +kernel
theorem dX3_seal_79 : decode cX3_seal 79 = .ok (.getfield 87, 3) := by decide +kernel
theorem dX3_seal_82 : decode cX3_seal 82 = .ok (.iconst 1, 1) := by decide +kernel
theorem dX3_seal_83 : decode cX3_seal 83 = .ok (.isub, 1) := by decide +kernel
theorem dX3_seal_84 : decode cX3_seal 84 = .ok (.ireturn, 1) := by decide +kernel
theorem dX3_open_0 : decode cX3_open 0 = .ok (.aload_n 0, 1) := by decide +kernel
theorem dX3_open_1 : decode cX3_open 1 = .ok (.iload_n 1, 1) := by decide +kernel
theorem dX3_open_2 : decode cX3_open 2 = .ok (.invokestatic 80, 3) := by decide +kernel
theorem dX3_open_5 : decode cX3_open 5 = .ok (.ifCond .ne 7, 3) := by decide +kernel
theorem dX3_open_8 : decode cX3_open 8 = .ok (.iconst 1, 1) := by decide +kernel
theorem dX3_open_9 : decode cX3_open 9 = .ok (.goto 32, 3) := by decide +kernel
theorem dX3_open_12 : decode cX3_open 12 = .ok (.iload_n 2, 1) := by decide +kernel
theorem dX3_open_13 : decode cX3_open 13 = .ok (.iconst 0, 1) := by decide +kernel
theorem dX3_open_14 : decode cX3_open 14 = .ok (.bipush 99, 2) := by decide +kernel
theorem dX3_open_16 : decode cX3_open 16 = .ok (.invokestatic 57, 3) := by decide +kernel
theorem dX3_open_19 : decode cX3_open 19 = .ok (.ifCond .ne 7, 3) := by decide +kernel
theorem dX3_open_22 : decode cX3_open 22 = .ok (.iconst 2, 1) := by decide +kernel
theorem dX3_open_23 : decode cX3_open 23 = .ok (.goto 18, 3) := by decide +kernel
theorem dX3_open_26 : decode cX3_open 26 = .ok (.aload_n 0, 1) := by decide +kernel
theorem dX3_open_27 : decode cX3_open 27 = .ok (.getfield 44, 3) := by decide +kernel
theorem dX3_open_30 : decode cX3_open 30 = .ok (.iload_n 1, 1) := by decide +kernel
theorem dX3_open_31 : decode cX3_open 31 = .ok (.iaload, 1) := by decide +kernel
theorem dX3_open_32 : decode cX3_open 32 = .ok (.iconst (-1), 1) := by decide +kernel
theorem dX3_open_33 : decode cX3_open 33 = .ok (.if_icmp .ne 7, 3) := by decide +kernel
theorem dX3_open_36 : decode cX3_open 36 = .ok (.iconst 3, 1) := by decide +kernel
theorem dX3_open_37 : decode cX3_open 37 = .ok (.goto 4, 3) := by decide +kernel
theorem dX3_open_40 : decode cX3_open 40 = .ok (.iconst 0, 1) := by decide +kernel
theorem dX3_open_41 : decode cX3_open 41 = .ok (.invokevirtual 68, 3) := by decide +kernel
theorem dX3_open_44 : decode cX3_open 44 = .ok (.ifCond .ne 5, 3) := by decide +kernel
theorem dX3_open_47 : decode cX3_open 47 = .ok (.iconst 0, 1) := by decide +kernel
theorem dX3_open_48 : decode cX3_open 48 = .ok (.ireturn, 1) := by decide +kernel
theorem dX3_open_49 : decode cX3_open 49 = .ok (.iload_n 2, 1) := by decide +kernel
theorem dX3_open_50 : decode cX3_open 50 = .ok (.aload_n 0, 1) := by decide +kernel
theorem dX3_open_51 : decode cX3_open 51 = .ok (.getfield 47, 3) := by decide +kernel
theorem dX3_open_54 : decode cX3_open 54 = .ok (.aload_n 0, 1) := by decide +kernel
theorem dX3_open_55 : decode cX3_open 55 = .ok (.getfield 44, 3) := by decide +kernel
theorem dX3_open_58 : decode cX3_open 58 = .ok (.iload_n 1, 1) := by decide +kernel
theorem dX3_open_59 : decode cX3_open 59 = .ok (.iaload, 1) := by decide +kernel
theorem dX3_open_60 : decode cX3_open 60 = .ok (.iaload, 1) := by decide +kernel
theorem dX3_open_61 : decode cX3_open 61 = .ok (.isub, 1) := by decide +kernel
theorem dX3_open_62 : decode cX3_open 62 = .ok (.istore_n 3, 1) := by decide +kernel
theorem dX3_open_63 : decode cX3_open 63 = .ok (.aload_n 0, 1) := by decide +kernel
theorem dX3_open_64 : decode cX3_open 64 = .ok (.getfield 44, 3) := by decide +kernel
theorem dX3_open_67 : decode cX3_open 67 = .ok (.iload_n 1, 1) := by decide +kernel
theorem dX3_open_68 : decode cX3_open 68 = .ok (.iconst (-1), 1) := by decide +kernel
theorem dX3_open_69 : decode cX3_open 69 = .ok (.iastore, 1) := by decide +kernel
theorem dX3_open_70 : decode cX3_open 70 = .ok (.aload_n 0, 1) := by decide +kernel
theorem dX3_open_71 : decode cX3_open 71 = .ok (.dup, 1) := by decide +kernel
theorem dX3_open_72 : decode cX3_open 72 = .ok (.getfield 90, 3) := by decide +kernel
theorem dX3_open_75 : decode cX3_open 75 = .ok (.iload_n 3, 1) := by decide +kernel
theorem dX3_open_76 : decode cX3_open 76 = .ok (.ifCond .ne 7, 3) := by decide +kernel
theorem dX3_open_79 : decode cX3_open 79 = .ok (.iconst 0, 1) := by decide +kernel
theorem dX3_open_80 : decode cX3_open 80 = .ok (.goto 4, 3) := by decide +kernel
theorem dX3_open_83 : decode cX3_open 83 = .ok (.iconst 1, 1) := by decide +kernel
theorem dX3_open_84 : decode cX3_open 84 = .ok (.iadd, 1) := by decide +kernel
theorem dX3_open_85 : decode cX3_open 85 = .ok (.putfield 90, 3) := by decide +kernel
theorem dX3_open_88 : decode cX3_open 88 = .ok (.iload_n 3, 1) := by decide +kernel
theorem dX3_open_89 : decode cX3_open 89 = .ok (.ireturn, 1) := by decide +kernel
theorem dX3_carry_0 : decode cX3_carry 0 = .ok (.iload_n 1, 1) := by decide +kernel
theorem dX3_carry_1 : decode cX3_carry 1 = .ok (.invokestatic 80, 3) := by decide +kernel
theorem dX3_carry_4 : decode cX3_carry 4 = .ok (.ifCond .eq 14, 3) := by decide +kernel
theorem dX3_carry_7 : decode cX3_carry 7 = .ok (.iload_n 2, 1) := by decide +kernel
theorem dX3_carry_8 : decode cX3_carry 8 = .ok (.invokestatic 65, 3) := by decide +kernel
theorem dX3_carry_11 : decode cX3_carry 11 = .ok (.ifCond .eq 7, 3) := by decide +kernel
theorem dX3_carry_14 : decode cX3_carry 14 = .ok (.iconst 1, 1) := by decide +kernel
theorem dX3_carry_15 : decode cX3_carry 15 = .ok (.goto 4, 3) := by decide +kernel
theorem dX3_carry_18 : decode cX3_carry 18 = .ok (.iconst 0, 1) := by decide +kernel
theorem dX3_carry_19 : decode cX3_carry 19 = .ok (.istore_n 3, 1) := by decide +kernel
theorem dX3_carry_20 : decode cX3_carry 20 = .ok (.aload_n 0, 1) := by decide +kernel
theorem dX3_carry_21 : decode cX3_carry 21 = .ok (.iload_n 3, 1) := by decide +kernel
theorem dX3_carry_22 : decode cX3_carry 22 = .ok (.ifCond .ne 7, 3) := by decide +kernel
theorem dX3_carry_25 : decode cX3_carry 25 = .ok (.iconst 1, 1) := by decide +kernel
theorem dX3_carry_26 : decode cX3_carry 26 = .ok (.goto 40, 3) := by decide +kernel
theorem dX3_carry_29 : decode cX3_carry 29 = .ok (.aload_n 0, 1) := by decide +kernel
theorem dX3_carry_30 : decode cX3_carry 30 = .ok (.getfield 41, 3) := by decide +kernel
theorem dX3_carry_33 : decode cX3_carry 33 = .ok (.iload_n 1, 1) := by decide +kernel
theorem dX3_carry_34 : decode cX3_carry 34 = .ok (.iaload, 1) := by decide +kernel
theorem dX3_carry_35 : decode cX3_carry 35 = .ok (.iload_n 2, 1) := by decide +kernel
theorem dX3_carry_36 : decode cX3_carry 36 = .ok (.if_icmp .ne 7, 3) := by decide +kernel
theorem dX3_carry_39 : decode cX3_carry 39 = .ok (.iconst 2, 1) := by decide +kernel
theorem dX3_carry_40 : decode cX3_carry 40 = .ok (.goto 26, 3) := by decide +kernel
theorem dX3_carry_43 : decode cX3_carry 43 = .ok (.aload_n 0, 1) := by decide +kernel
theorem dX3_carry_44 : decode cX3_carry 44 = .ok (.getfield 44, 3) := by decide +kernel
theorem dX3_carry_47 : decode cX3_carry 47 = .ok (.iload_n 1, 1) := by decide +kernel
theorem dX3_carry_48 : decode cX3_carry 48 = .ok (.iaload, 1) := by decide +kernel
theorem dX3_carry_49 : decode cX3_carry 49 = .ok (.iconst (-1), 1) := by decide +kernel
theorem dX3_carry_50 : decode cX3_carry 50 = .ok (.if_icmp .ne 15, 3) := by decide +kernel
theorem dX3_carry_53 : decode cX3_carry 53 = .ok (.aload_n 0, 1) := by decide +kernel
theorem dX3_carry_54 : decode cX3_carry 54 = .ok (.iload_n 1, 1) := by decide +kernel
theorem dX3_carry_55 : decode cX3_carry 55 = .ok (.invokevirtual 83, 3) := by decide +kernel
theorem dX3_carry_58 : decode cX3_carry 58 = .ok (.ifCond .le 7, 3) := by decide +kernel
theorem dX3_carry_61 : decode cX3_carry 61 = .ok (.iconst 3, 1) := by decide +kernel
theorem dX3_carry_62 : decode cX3_carry 62 = .ok (.goto 4, 3) := by decide +kernel
theorem dX3_carry_65 : decode cX3_carry 65 = .ok (.iconst 0, 1) := by decide +kernel
theorem dX3_carry_66 : decode cX3_carry 66 = .ok (.invokevirtual 68, 3) := by decide +kernel
theorem dX3_carry_69 : decode cX3_carry 69 = .ok (.ifCond .ne 5, 3) := by decide +kernel
theorem dX3_carry_72 : decode cX3_carry 72 = .ok (.iconst 0, 1) := by decide +kernel
theorem dX3_carry_73 : decode cX3_carry 73 = .ok (.ireturn, 1) := by decide +kernel
theorem dX3_carry_74 : decode cX3_carry 74 = .ok (.aload_n 0, 1) := by decide +kernel
theorem dX3_carry_75 : decode cX3_carry 75 = .ok (.getfield 41, 3) := by decide +kernel
theorem dX3_carry_78 : decode cX3_carry 78 = .ok (.iload_n 1, 1) := by decide +kernel
theorem dX3_carry_79 : decode cX3_carry 79 = .ok (.iaload, 1) := by decide +kernel
theorem dX3_carry_80 : decode cX3_carry 80 = .ok (.istore 4, 2) := by decide +kernel
theorem dX3_carry_82 : decode cX3_carry 82 = .ok (.aload_n 0, 1) := by decide +kernel
theorem dX3_carry_83 : decode cX3_carry 83 = .ok (.getfield 41, 3) := by decide +kernel
theorem dX3_carry_86 : decode cX3_carry 86 = .ok (.iload_n 1, 1) := by decide +kernel
theorem dX3_carry_87 : decode cX3_carry 87 = .ok (.iload_n 2, 1) := by decide +kernel
theorem dX3_carry_88 : decode cX3_carry 88 = .ok (.iastore, 1) := by decide +kernel
theorem dX3_carry_89 : decode cX3_carry 89 = .ok (.iconst 0, 1) := by decide +kernel
theorem dX3_carry_90 : decode cX3_carry 90 = .ok (.istore 5, 2) := by decide +kernel
theorem dX3_carry_92 : decode cX3_carry 92 = .ok (.iload 5, 2) := by decide +kernel
theorem dX3_carry_94 : decode cX3_carry 94 = .ok (.aload_n 0, 1) := by decide +kernel
theorem dX3_carry_95 : decode cX3_carry 95 = .ok (.getfield 54, 3) := by decide +kernel
theorem dX3_carry_98 : decode cX3_carry 98 = .ok (.if_icmp .ge 38, 3) := by decide +kernel
theorem dX3_carry_101 : decode cX3_carry 101 = .ok (.aload_n 0, 1) := by decide +kernel
theorem dX3_carry_102 : decode cX3_carry 102 = .ok (.getfield 19, 3) := by decide +kernel
theorem dX3_carry_105 : decode cX3_carry 105 = .ok (.iload 5, 2) := by decide +kernel
theorem dX3_carry_107 : decode cX3_carry 107 = .ok (.iaload, 1) := by decide +kernel
theorem dX3_carry_108 : decode cX3_carry 108 = .ok (.iload_n 1, 1) := by decide +kernel
theorem dX3_carry_109 : decode cX3_carry 109 = .ok (.if_icmp .ne 21, 3) := by decide +kernel
theorem dX3_carry_112 : decode cX3_carry 112 = .ok (.aload_n 0, 1) := by decide +kernel
theorem dX3_carry_113 : decode cX3_carry 113 = .ok (.getfield 16, 3) := by decide +kernel
theorem dX3_carry_116 : decode cX3_carry 116 = .ok (.iload 5, 2) := by decide +kernel
theorem dX3_carry_118 : decode cX3_carry 118 = .ok (.iload_n 2, 1) := by decide +kernel
theorem dX3_carry_119 : decode cX3_carry 119 = .ok (.iastore, 1) := by decide +kernel
theorem dX3_carry_120 : decode cX3_carry 120 = .ok (.aload_n 0, 1) := by decide +kernel
theorem dX3_carry_121 : decode cX3_carry 121 = .ok (.dup, 1) := by decide +kernel
theorem dX3_carry_122 : decode cX3_carry 122 = .ok (.getfield 71, 3) := by decide +kernel
theorem dX3_carry_125 : decode cX3_carry 125 = .ok (.iconst 1, 1) := by decide +kernel
theorem dX3_carry_126 : decode cX3_carry 126 = .ok (.iadd, 1) := by decide +kernel
theorem dX3_carry_127 : decode cX3_carry 127 = .ok (.putfield 71, 3) := by decide +kernel
theorem dX3_carry_130 : decode cX3_carry 130 = .ok (.iinc 5 1, 3) := by decide +kernel
theorem dX3_carry_133 : decode cX3_carry 133 = .ok (.goto (-41), 3) := by decide +kernel
theorem dX3_carry_136 : decode cX3_carry 136 = .ok (.iload 4, 2) := by decide +kernel
theorem dX3_carry_138 : decode cX3_carry 138 = .ok (.ireturn, 1) := by decide +kernel
theorem dX3_wipe_0 : decode cX3_wipe 0 = .ok (.aload_n 0, 1) := by decide +kernel
theorem dX3_wipe_1 : decode cX3_wipe 1 = .ok (.iload_n 1, 1) := by decide +kernel
theorem dX3_wipe_2 : decode cX3_wipe 2 = .ok (.invokevirtual 74, 3) := by decide +kernel
theorem dX3_wipe_5 : decode cX3_wipe 5 = .ok (.ifCond .eq 14, 3) := by decide +kernel
theorem dX3_wipe_8 : decode cX3_wipe 8 = .ok (.iload_n 3, 1) := by decide +kernel
theorem dX3_wipe_9 : decode cX3_wipe 9 = .ok (.invokestatic 65, 3) := by decide +kernel
theorem dX3_wipe_12 : decode cX3_wipe 12 = .ok (.ifCond .eq 7, 3) := by decide +kernel
theorem dX3_wipe_15 : decode cX3_wipe 15 = .ok (.iconst 1, 1) := by decide +kernel
theorem dX3_wipe_16 : decode cX3_wipe 16 = .ok (.goto 4, 3) := by decide +kernel
theorem dX3_wipe_19 : decode cX3_wipe 19 = .ok (.iconst 0, 1) := by decide +kernel
theorem dX3_wipe_20 : decode cX3_wipe 20 = .ok (.istore 4, 2) := by decide +kernel
theorem dX3_wipe_22 : decode cX3_wipe 22 = .ok (.iload 4, 2) := by decide +kernel
theorem dX3_wipe_24 : decode cX3_wipe 24 = .ok (.ifCond .eq 26, 3) := by decide +kernel
theorem dX3_wipe_27 : decode cX3_wipe 27 = .ok (.iload_n 2, 1) := by decide +kernel
theorem dX3_wipe_28 : decode cX3_wipe 28 = .ok (.iconst 0, 1) := by decide +kernel
theorem dX3_wipe_29 : decode cX3_wipe 29 = .ok (.iconst 2, 1) := by decide +kernel
theorem dX3_wipe_30 : decode cX3_wipe 30 = .ok (.invokestatic 57, 3) := by decide +kernel
theorem dX3_wipe_33 : decode cX3_wipe 33 = .ok (.ifCond .eq 17, 3) := by decide +kernel
theorem dX3_wipe_36 : decode cX3_wipe 36 = .ok (.iload_n 3, 1) := by decide +kernel
theorem dX3_wipe_37 : decode cX3_wipe 37 = .ok (.aload_n 0, 1) := by decide +kernel
theorem dX3_wipe_38 : decode cX3_wipe 38 = .ok (.getfield 16, 3) := by decide +kernel
theorem dX3_wipe_41 : decode cX3_wipe 41 = .ok (.iload_n 1, 1) := by decide +kernel
theorem dX3_wipe_42 : decode cX3_wipe 42 = .ok (.iaload, 1) := by decide +kernel
theorem dX3_wipe_43 : decode cX3_wipe 43 = .ok (.if_icmp .eq 7, 3) := by decide +kernel
theorem dX3_wipe_46 : decode cX3_wipe 46 = .ok (.iconst 1, 1) := by decide +kernel
theorem dX3_wipe_47 : decode cX3_wipe 47 = .ok (.goto 4, 3) := by decide +kernel
theorem dX3_wipe_50 : decode cX3_wipe 50 = .ok (.iconst 0, 1) := by decide +kernel
theorem dX3_wipe_51 : decode cX3_wipe 51 = .ok (.istore 5, 2) := by decide +kernel
theorem dX3_wipe_53 : decode cX3_wipe 53 = .ok (.aload_n 0, 1) := by decide +kernel
theorem dX3_wipe_54 : decode cX3_wipe 54 = .ok (.iload 4, 2) := by decide +kernel
theorem dX3_wipe_56 : decode cX3_wipe 56 = .ok (.ifCond .ne 7, 3) := by decide +kernel
theorem dX3_wipe_59 : decode cX3_wipe 59 = .ok (.iconst 1, 1) := by decide +kernel
theorem dX3_wipe_60 : decode cX3_wipe 60 = .ok (.goto 45, 3) := by decide +kernel
theorem dX3_wipe_63 : decode cX3_wipe 63 = .ok (.iload 5, 2) := by decide +kernel
theorem dX3_wipe_65 : decode cX3_wipe 65 = .ok (.ifCond .ne 7, 3) := by decide +kernel
theorem dX3_wipe_68 : decode cX3_wipe 68 = .ok (.iconst 2, 1) := by decide +kernel
theorem dX3_wipe_69 : decode cX3_wipe 69 = .ok (.goto 36, 3) := by decide +kernel
theorem dX3_wipe_72 : decode cX3_wipe 72 = .ok (.aload_n 0, 1) := by decide +kernel
theorem dX3_wipe_73 : decode cX3_wipe 73 = .ok (.iload_n 1, 1) := by decide +kernel
theorem dX3_wipe_74 : decode cX3_wipe 74 = .ok (.invokevirtual 77, 3) := by decide +kernel
theorem dX3_wipe_77 : decode cX3_wipe 77 = .ok (.ifCond .ne 23, 3) := by decide +kernel
theorem dX3_wipe_80 : decode cX3_wipe 80 = .ok (.aload_n 0, 1) := by decide +kernel
theorem dX3_wipe_81 : decode cX3_wipe 81 = .ok (.getfield 22, 3) := by decide +kernel
theorem dX3_wipe_84 : decode cX3_wipe 84 = .ok (.iload_n 1, 1) := by decide +kernel
theorem dX3_wipe_85 : decode cX3_wipe 85 = .ok (.iaload, 1) := by decide +kernel
theorem dX3_wipe_86 : decode cX3_wipe 86 = .ok (.iconst 1, 1) := by decide +kernel
theorem dX3_wipe_87 : decode cX3_wipe 87 = .ok (.if_icmp .eq 13, 3) := by decide +kernel
theorem dX3_wipe_90 : decode cX3_wipe 90 = .ok (.aload_n 0, 1) := by decide +kernel
theorem dX3_wipe_91 : decode cX3_wipe 91 = .ok (.getfield 22, 3) := by decide +kernel
theorem dX3_wipe_94 : decode cX3_wipe 94 = .ok (.iload_n 1, 1) := by decide +kernel
theorem dX3_wipe_95 : decode cX3_wipe 95 = .ok (.iaload, 1) := by decide +kernel
theorem dX3_wipe_96 : decode cX3_wipe 96 = .ok (.iconst 3, 1) := by decide +kernel
theorem dX3_wipe_97 : decode cX3_wipe 97 = .ok (.if_icmp .ne 7, 3) := by decide +kernel
theorem dX3_wipe_100 : decode cX3_wipe 100 = .ok (.iconst 3, 1) := by decide +kernel
theorem dX3_wipe_101 : decode cX3_wipe 101 = .ok (.goto 4, 3) := by decide +kernel
theorem dX3_wipe_104 : decode cX3_wipe 104 = .ok (.iconst 0, 1) := by decide +kernel
theorem dX3_wipe_105 : decode cX3_wipe 105 = .ok (.invokevirtual 68, 3) := by decide +kernel
theorem dX3_wipe_108 : decode cX3_wipe 108 = .ok (.ifCond .ne 5, 3) := by decide +kernel
theorem dX3_wipe_111 : decode cX3_wipe 111 = .ok (.iconst 0, 1) := by decide +kernel
theorem dX3_wipe_112 : decode cX3_wipe 112 = .ok (.ireturn, 1) := by decide +kernel
theorem dX3_wipe_113 : decode cX3_wipe 113 = .ok (.aload_n 0, 1) := by decide +kernel
theorem dX3_wipe_114 : decode cX3_wipe 114 = .ok (.getfield 22, 3) := by decide +kernel
theorem dX3_wipe_117 : decode cX3_wipe 117 = .ok (.iload_n 1, 1) := by decide +kernel
theorem dX3_wipe_118 : decode cX3_wipe 118 = .ok (.iload_n 2, 1) := by decide +kernel
theorem dX3_wipe_119 : decode cX3_wipe 119 = .ok (.aload_n 0, 1) := by decide +kernel
theorem dX3_wipe_120 : decode cX3_wipe 120 = .ok (.getfield 7, 3) := by decide +kernel
theorem dX3_wipe_123 : decode cX3_wipe 123 = .ok (.iload_n 1, 1) := by decide +kernel
theorem dX3_wipe_124 : decode cX3_wipe 124 = .ok (.iaload, 1) := by decide +kernel
theorem dX3_wipe_125 : decode cX3_wipe 125 = .ok (.if_icmp .ne 17, 3) := by decide +kernel
theorem dX3_wipe_128 : decode cX3_wipe 128 = .ok (.aload_n 0, 1) := by decide +kernel
theorem dX3_wipe_129 : decode cX3_wipe 129 = .ok (.getfield 13, 3) := by decide +kernel
theorem dX3_wipe_132 : decode cX3_wipe 132 = .ok (.iload_n 1, 1) := by decide +kernel
theorem dX3_wipe_133 : decode cX3_wipe 133 = .ok (.iaload, 1) := by decide +kernel
theorem dX3_wipe_134 : decode cX3_wipe 134 = .ok (.iconst 3, 1) := by decide +kernel
theorem dX3_wipe_135 : decode cX3_wipe 135 = .ok (.if_icmp .ge 7, 3) := by decide +kernel
theorem dX3_wipe_138 : decode cX3_wipe 138 = .ok (.iconst 1, 1) := by decide +kernel
theorem dX3_wipe_139 : decode cX3_wipe 139 = .ok (.goto 4, 3) := by decide +kernel
theorem dX3_wipe_142 : decode cX3_wipe 142 = .ok (.iconst 2, 1) := by decide +kernel
theorem dX3_wipe_143 : decode cX3_wipe 143 = .ok (.iastore, 1) := by decide +kernel
theorem dX3_wipe_144 : decode cX3_wipe 144 = .ok (.aload_n 0, 1) := by decide +kernel
theorem dX3_wipe_145 : decode cX3_wipe 145 = .ok (.getfield 32, 3) := by decide +kernel
theorem dX3_wipe_148 : decode cX3_wipe 148 = .ok (.iload_n 1, 1) := by decide +kernel
theorem dX3_wipe_149 : decode cX3_wipe 149 = .ok (.aload_n 0, 1) := by decide +kernel
theorem dX3_wipe_150 : decode cX3_wipe 150 = .ok (.getfield 16, 3) := by decide +kernel
theorem dX3_wipe_153 : decode cX3_wipe 153 = .ok (.iload_n 1, 1) := by decide +kernel
theorem dX3_wipe_154 : decode cX3_wipe 154 = .ok (.iaload, 1) := by decide +kernel
theorem dX3_wipe_155 : decode cX3_wipe 155 = .ok (.iastore, 1) := by decide +kernel
theorem dX3_wipe_156 : decode cX3_wipe 156 = .ok (.aload_n 0, 1) := by decide +kernel
theorem dX3_wipe_157 : decode cX3_wipe 157 = .ok (.getfield 35, 3) := by decide +kernel
theorem dX3_wipe_160 : decode cX3_wipe 160 = .ok (.iload_n 1, 1) := by decide +kernel
theorem dX3_wipe_161 : decode cX3_wipe 161 = .ok (.iconst 0, 1) := by decide +kernel
theorem dX3_wipe_162 : decode cX3_wipe 162 = .ok (.bastore, 1) := by decide +kernel
theorem dX3_wipe_163 : decode cX3_wipe 163 = .ok (.aload_n 0, 1) := by decide +kernel
theorem dX3_wipe_164 : decode cX3_wipe 164 = .ok (.getfield 22, 3) := by decide +kernel
theorem dX3_wipe_167 : decode cX3_wipe 167 = .ok (.iload_n 1, 1) := by decide +kernel
theorem dX3_wipe_168 : decode cX3_wipe 168 = .ok (.iaload, 1) := by decide +kernel
theorem dX3_wipe_169 : decode cX3_wipe 169 = .ok (.ireturn, 1) := by decide +kernel
theorem dX3_smash_0 : decode cX3_smash 0 = .ok (.aload_n 0, 1) := by decide +kernel
theorem dX3_smash_1 : decode cX3_smash 1 = .ok (.iload_n 1, 1) := by decide +kernel
theorem dX3_smash_2 : decode cX3_smash 2 = .ok (.invokevirtual 74, 3) := by decide +kernel
theorem dX3_smash_5 : decode cX3_smash 5 = .ok (.ifCond .eq 14, 3) := by decide +kernel
theorem dX3_smash_8 : decode cX3_smash 8 = .ok (.iload_n 2, 1) := by decide +kernel
theorem dX3_smash_9 : decode cX3_smash 9 = .ok (.invokestatic 65, 3) := by decide +kernel
theorem dX3_smash_12 : decode cX3_smash 12 = .ok (.ifCond .eq 7, 3) := by decide +kernel
theorem dX3_smash_15 : decode cX3_smash 15 = .ok (.iconst 1, 1) := by decide +kernel
theorem dX3_smash_16 : decode cX3_smash 16 = .ok (.goto 4, 3) := by decide +kernel
theorem dX3_smash_19 : decode cX3_smash 19 = .ok (.iconst 0, 1) := by decide +kernel
theorem dX3_smash_20 : decode cX3_smash 20 = .ok (.istore_n 3, 1) := by decide +kernel
theorem dX3_smash_21 : decode cX3_smash 21 = .ok (.aload_n 0, 1) := by decide +kernel
theorem dX3_smash_22 : decode cX3_smash 22 = .ok (.iload_n 3, 1) := by decide +kernel
theorem dX3_smash_23 : decode cX3_smash 23 = .ok (.ifCond .ne 7, 3) := by decide +kernel
theorem dX3_smash_26 : decode cX3_smash 26 = .ok (.iconst 1, 1) := by decide +kernel
theorem dX3_smash_27 : decode cX3_smash 27 = .ok (.goto 40, 3) := by decide +kernel
theorem dX3_smash_30 : decode cX3_smash 30 = .ok (.iload_n 2, 1) := by decide +kernel
theorem dX3_smash_31 : decode cX3_smash 31 = .ok (.aload_n 0, 1) := by decide +kernel
theorem dX3_smash_32 : decode cX3_smash 32 = .ok (.getfield 16, 3) := by decide +kernel
theorem dX3_smash_35 : decode cX3_smash 35 = .ok (.iload_n 1, 1) := by decide +kernel
theorem dX3_smash_36 : decode cX3_smash 36 = .ok (.iaload, 1) := by decide +kernel
theorem dX3_smash_37 : decode cX3_smash 37 = .ok (.if_icmp .ne 7, 3) := by decide +kernel
theorem dX3_smash_40 : decode cX3_smash 40 = .ok (.iconst 2, 1) := by decide +kernel
theorem dX3_smash_41 : decode cX3_smash 41 = .ok (.goto 26, 3) := by decide +kernel
theorem dX3_smash_44 : decode cX3_smash 44 = .ok (.aload_n 0, 1) := by decide +kernel
theorem dX3_smash_45 : decode cX3_smash 45 = .ok (.iload_n 1, 1) := by decide +kernel
theorem dX3_smash_46 : decode cX3_smash 46 = .ok (.invokevirtual 77, 3) := by decide +kernel
theorem dX3_smash_49 : decode cX3_smash 49 = .ok (.ifCond .ne 13, 3) := by decide +kernel
theorem dX3_smash_52 : decode cX3_smash 52 = .ok (.aload_n 0, 1) := by decide +kernel
theorem dX3_smash_53 : decode cX3_smash 53 = .ok (.getfield 22, 3) := by decide +kernel
theorem dX3_smash_56 : decode cX3_smash 56 = .ok (.iload_n 1, 1) := by decide +kernel
theorem dX3_smash_57 : decode cX3_smash 57 = .ok (.iaload, 1) := by decide +kernel
theorem dX3_smash_58 : decode cX3_smash 58 = .ok (.iconst 3, 1) := by decide +kernel
theorem dX3_smash_59 : decode cX3_smash 59 = .ok (.if_icmp .ne 7, 3) := by decide +kernel
theorem dX3_smash_62 : decode cX3_smash 62 = .ok (.iconst 3, 1) := by decide +kernel
theorem dX3_smash_63 : decode cX3_smash 63 = .ok (.goto 4, 3) := by decide +kernel
theorem dX3_smash_66 : decode cX3_smash 66 = .ok (.iconst 0, 1) := by decide +kernel
theorem dX3_smash_67 : decode cX3_smash 67 = .ok (.invokevirtual 68, 3) := by decide +kernel
theorem dX3_smash_70 : decode cX3_smash 70 = .ok (.ifCond .ne 5, 3) := by decide +kernel
theorem dX3_smash_73 : decode cX3_smash 73 = .ok (.iconst 0, 1) := by decide +kernel
theorem dX3_smash_74 : decode cX3_smash 74 = .ok (.ireturn, 1) := by decide +kernel
theorem dX3_smash_75 : decode cX3_smash 75 = .ok (.aload_n 0, 1) := by decide +kernel
theorem dX3_smash_76 : decode cX3_smash 76 = .ok (.getfield 22, 3) := by decide +kernel
theorem dX3_smash_79 : decode cX3_smash 79 = .ok (.iload_n 1, 1) := by decide +kernel
theorem dX3_smash_80 : decode cX3_smash 80 = .ok (.iaload, 1) := by decide +kernel
theorem dX3_smash_81 : decode cX3_smash 81 = .ok (.istore 4, 2) := by decide +kernel
theorem dX3_smash_83 : decode cX3_smash 83 = .ok (.aload_n 0, 1) := by decide +kernel
theorem dX3_smash_84 : decode cX3_smash 84 = .ok (.getfield 22, 3) := by decide +kernel
theorem dX3_smash_87 : decode cX3_smash 87 = .ok (.iload_n 1, 1) := by decide +kernel
theorem dX3_smash_88 : decode cX3_smash 88 = .ok (.iconst 3, 1) := by decide +kernel
theorem dX3_smash_89 : decode cX3_smash 89 = .ok (.iastore, 1) := by decide +kernel
theorem dX3_smash_90 : decode cX3_smash 90 = .ok (.iload 4, 2) := by decide +kernel
theorem dX3_smash_92 : decode cX3_smash 92 = .ok (.ireturn, 1) := by decide +kernel
theorem dX3_check_0 : decode cX3_check 0 = .ok (.aload_n 0, 1) := by decide +kernel
theorem dX3_check_1 : decode cX3_check 1 = .ok (.iload_n 1, 1) := by decide +kernel
theorem dX3_check_2 : decode cX3_check 2 = .ok (.invokevirtual 74, 3) := by decide +kernel
theorem dX3_check_5 : decode cX3_check 5 = .ok (.ifCond .eq 14, 3) := by decide +kernel
theorem dX3_check_8 : decode cX3_check 8 = .ok (.iload_n 2, 1) := by decide +kernel
theorem dX3_check_9 : decode cX3_check 9 = .ok (.invokestatic 65, 3) := by decide +kernel
theorem dX3_check_12 : decode cX3_check 12 = .ok (.ifCond .eq 7, 3) := by decide +kernel
theorem dX3_check_15 : decode cX3_check 15 = .ok (.iconst 1, 1) := by decide +kernel
theorem dX3_check_16 : decode cX3_check 16 = .ok (.goto 4, 3) := by decide +kernel
theorem dX3_check_19 : decode cX3_check 19 = .ok (.iconst 0, 1) := by decide +kernel
theorem dX3_check_20 : decode cX3_check 20 = .ok (.istore 4, 2) := by decide +kernel
theorem dX3_check_22 : decode cX3_check 22 = .ok (.iload 4, 2) := by decide +kernel
theorem dX3_check_24 : decode cX3_check 24 = .ok (.ifCond .eq 27, 3) := by decide +kernel
theorem dX3_check_27 : decode cX3_check 27 = .ok (.aload_n 0, 1) := by decide +kernel
theorem dX3_check_28 : decode cX3_check 28 = .ok (.getfield 22, 3) := by decide +kernel
theorem dX3_check_31 : decode cX3_check 31 = .ok (.iload_n 1, 1) := by decide +kernel
theorem dX3_check_32 : decode cX3_check 32 = .ok (.iaload, 1) := by decide +kernel
theorem dX3_check_33 : decode cX3_check 33 = .ok (.iconst 1, 1) := by decide +kernel
theorem dX3_check_34 : decode cX3_check 34 = .ok (.if_icmp .ne 17, 3) := by decide +kernel
theorem dX3_check_37 : decode cX3_check 37 = .ok (.aload_n 0, 1) := by decide +kernel
theorem dX3_check_38 : decode cX3_check 38 = .ok (.getfield 32, 3) := by decide +kernel
theorem dX3_check_41 : decode cX3_check 41 = .ok (.iload_n 1, 1) := by decide +kernel
theorem dX3_check_42 : decode cX3_check 42 = .ok (.iaload, 1) := by decide +kernel
theorem dX3_check_43 : decode cX3_check 43 = .ok (.iload_n 2, 1) := by decide +kernel
theorem dX3_check_44 : decode cX3_check 44 = .ok (.if_icmp .ne 7, 3) := by decide +kernel
theorem dX3_check_47 : decode cX3_check 47 = .ok (.iconst 1, 1) := by decide +kernel
theorem dX3_check_48 : decode cX3_check 48 = .ok (.goto 4, 3) := by decide +kernel
theorem dX3_check_51 : decode cX3_check 51 = .ok (.iconst 0, 1) := by decide +kernel
theorem dX3_check_52 : decode cX3_check 52 = .ok (.istore 5, 2) := by decide +kernel
theorem dX3_check_54 : decode cX3_check 54 = .ok (.aload_n 0, 1) := by decide +kernel
theorem dX3_check_55 : decode cX3_check 55 = .ok (.iload 4, 2) := by decide +kernel
theorem dX3_check_57 : decode cX3_check 57 = .ok (.ifCond .ne 7, 3) := by decide +kernel
theorem dX3_check_60 : decode cX3_check 60 = .ok (.iconst 1, 1) := by decide +kernel
theorem dX3_check_61 : decode cX3_check 61 = .ok (.goto 35, 3) := by decide +kernel
theorem dX3_check_64 : decode cX3_check 64 = .ok (.iload 5, 2) := by decide +kernel
theorem dX3_check_66 : decode cX3_check 66 = .ok (.ifCond .eq 7, 3) := by decide +kernel
theorem dX3_check_69 : decode cX3_check 69 = .ok (.iconst 2, 1) := by decide +kernel
theorem dX3_check_70 : decode cX3_check 70 = .ok (.goto 26, 3) := by decide +kernel
theorem dX3_check_73 : decode cX3_check 73 = .ok (.aload_n 0, 1) := by decide +kernel
theorem dX3_check_74 : decode cX3_check 74 = .ok (.iload_n 1, 1) := by decide +kernel
theorem dX3_check_75 : decode cX3_check 75 = .ok (.invokevirtual 77, 3) := by decide +kernel
theorem dX3_check_78 : decode cX3_check 78 = .ok (.ifCond .ne 13, 3) := by decide +kernel
theorem dX3_check_81 : decode cX3_check 81 = .ok (.aload_n 0, 1) := by decide +kernel
theorem dX3_check_82 : decode cX3_check 82 = .ok (.getfield 22, 3) := by decide +kernel
theorem dX3_check_85 : decode cX3_check 85 = .ok (.iload_n 1, 1) := by decide +kernel
theorem dX3_check_86 : decode cX3_check 86 = .ok (.iaload, 1) := by decide +kernel
theorem dX3_check_87 : decode cX3_check 87 = .ok (.iconst 1, 1) := by decide +kernel
theorem dX3_check_88 : decode cX3_check 88 = .ok (.if_icmp .eq 7, 3) := by decide +kernel
theorem dX3_check_91 : decode cX3_check 91 = .ok (.iconst 3, 1) := by decide +kernel
theorem dX3_check_92 : decode cX3_check 92 = .ok (.goto 4, 3) := by decide +kernel
theorem dX3_check_95 : decode cX3_check 95 = .ok (.iconst 0, 1) := by decide +kernel
theorem dX3_check_96 : decode cX3_check 96 = .ok (.invokevirtual 68, 3) := by decide +kernel
theorem dX3_check_99 : decode cX3_check 99 = .ok (.ifCond .ne 5, 3) := by decide +kernel
theorem dX3_check_102 : decode cX3_check 102 = .ok (.iconst 0, 1) := by decide +kernel
theorem dX3_check_103 : decode cX3_check 103 = .ok (.ireturn, 1) := by decide +kernel
theorem dX3_check_104 : decode cX3_check 104 = .ok (.aload_n 0, 1) := by decide +kernel
theorem dX3_check_105 : decode cX3_check 105 = .ok (.getfield 35, 3) := by decide +kernel
theorem dX3_check_108 : decode cX3_check 108 = .ok (.iload_n 1, 1) := by decide +kernel
theorem dX3_check_109 : decode cX3_check 109 = .ok (.iload_n 3, 1) := by decide +kernel
theorem dX3_check_110 : decode cX3_check 110 = .ok (.bastore, 1) := by decide +kernel
theorem dX3_check_111 : decode cX3_check 111 = .ok (.aload_n 0, 1) := by decide +kernel
theorem dX3_check_112 : decode cX3_check 112 = .ok (.getfield 22, 3) := by decide +kernel
theorem dX3_check_115 : decode cX3_check 115 = .ok (.iload_n 1, 1) := by decide +kernel
theorem dX3_check_116 : decode cX3_check 116 = .ok (.iload_n 3, 1) := by decide +kernel
theorem dX3_check_117 : decode cX3_check 117 = .ok (.ifCond .eq 7, 3) := by decide +kernel
theorem dX3_check_120 : decode cX3_check 120 = .ok (.iconst 1, 1) := by decide +kernel
theorem dX3_check_121 : decode cX3_check 121 = .ok (.goto 4, 3) := by decide +kernel
theorem dX3_check_124 : decode cX3_check 124 = .ok (.iconst 2, 1) := by decide +kernel
theorem dX3_check_125 : decode cX3_check 125 = .ok (.iastore, 1) := by decide +kernel
theorem dX3_check_126 : decode cX3_check 126 = .ok (.aload_n 0, 1) := by decide +kernel
theorem dX3_check_127 : decode cX3_check 127 = .ok (.getfield 22, 3) := by decide +kernel
theorem dX3_check_130 : decode cX3_check 130 = .ok (.iload_n 1, 1) := by decide +kernel
theorem dX3_check_131 : decode cX3_check 131 = .ok (.iaload, 1) := by decide +kernel
theorem dX3_check_132 : decode cX3_check 132 = .ok (.ireturn, 1) := by decide +kernel
theorem dX3_lose_0 : decode cX3_lose 0 = .ok (.aload_n 0, 1) := by decide +kernel
theorem dX3_lose_1 : decode cX3_lose 1 = .ok (.aload_n 0, 1) := by decide +kernel
theorem dX3_lose_2 : decode cX3_lose 2 = .ok (.iload_n 1, 1) := by decide +kernel
theorem dX3_lose_3 : decode cX3_lose 3 = .ok (.invokevirtual 74, 3) := by decide +kernel
theorem dX3_lose_6 : decode cX3_lose 6 = .ok (.ifCond .ne 7, 3) := by decide +kernel
theorem dX3_lose_9 : decode cX3_lose 9 = .ok (.iconst 1, 1) := by decide +kernel
theorem dX3_lose_10 : decode cX3_lose 10 = .ok (.goto 17, 3) := by decide +kernel
theorem dX3_lose_13 : decode cX3_lose 13 = .ok (.aload_n 0, 1) := by decide +kernel
theorem dX3_lose_14 : decode cX3_lose 14 = .ok (.getfield 25, 3) := by decide +kernel
theorem dX3_lose_17 : decode cX3_lose 17 = .ok (.iload_n 1, 1) := by decide +kernel
theorem dX3_lose_18 : decode cX3_lose 18 = .ok (.baload, 1) := by decide +kernel
theorem dX3_lose_19 : decode cX3_lose 19 = .ok (.ifCond .eq 7, 3) := by decide +kernel
theorem dX3_lose_22 : decode cX3_lose 22 = .ok (.iconst 2, 1) := by decide +kernel
theorem dX3_lose_23 : decode cX3_lose 23 = .ok (.goto 4, 3) := by decide +kernel
theorem dX3_lose_26 : decode cX3_lose 26 = .ok (.iconst 0, 1) := by decide +kernel
theorem dX3_lose_27 : decode cX3_lose 27 = .ok (.invokevirtual 68, 3) := by decide +kernel
theorem dX3_lose_30 : decode cX3_lose 30 = .ok (.ifCond .ne 5, 3) := by decide +kernel
theorem dX3_lose_33 : decode cX3_lose 33 = .ok (.iconst 0, 1) := by decide +kernel
theorem dX3_lose_34 : decode cX3_lose 34 = .ok (.ireturn, 1) := by decide +kernel
theorem dX3_lose_35 : decode cX3_lose 35 = .ok (.aload_n 0, 1) := by decide +kernel
theorem dX3_lose_36 : decode cX3_lose 36 = .ok (.getfield 25, 3) := by decide +kernel
theorem dX3_lose_39 : decode cX3_lose 39 = .ok (.iload_n 1, 1) := by decide +kernel
theorem dX3_lose_40 : decode cX3_lose 40 = .ok (.iconst 1, 1) := by decide +kernel
theorem dX3_lose_41 : decode cX3_lose 41 = .ok (.bastore, 1) := by decide +kernel
theorem dX3_lose_42 : decode cX3_lose 42 = .ok (.aload_n 0, 1) := by decide +kernel
theorem dX3_lose_43 : decode cX3_lose 43 = .ok (.getfield 29, 3) := by decide +kernel
theorem dX3_lose_46 : decode cX3_lose 46 = .ok (.iload_n 1, 1) := by decide +kernel
theorem dX3_lose_47 : decode cX3_lose 47 = .ok (.iconst (-1), 1) := by decide +kernel
theorem dX3_lose_48 : decode cX3_lose 48 = .ok (.iastore, 1) := by decide +kernel
theorem dX3_lose_49 : decode cX3_lose 49 = .ok (.aload_n 0, 1) := by decide +kernel
theorem dX3_lose_50 : decode cX3_lose 50 = .ok (.getfield 16, 3) := by decide +kernel
theorem dX3_lose_53 : decode cX3_lose 53 = .ok (.iload_n 1, 1) := by decide +kernel
theorem dX3_lose_54 : decode cX3_lose 54 = .ok (.iaload, 1) := by decide +kernel
theorem dX3_lose_55 : decode cX3_lose 55 = .ok (.ireturn, 1) := by decide +kernel
theorem dX3_find_0 : decode cX3_find 0 = .ok (.aload_n 0, 1) := by decide +kernel
theorem dX3_find_1 : decode cX3_find 1 = .ok (.aload_n 0, 1) := by decide +kernel
theorem dX3_find_2 : decode cX3_find 2 = .ok (.iload_n 1, 1) := by decide +kernel
theorem dX3_find_3 : decode cX3_find 3 = .ok (.invokevirtual 74, 3) := by decide +kernel
theorem dX3_find_6 : decode cX3_find 6 = .ok (.ifCond .ne 7, 3) := by decide +kernel
theorem dX3_find_9 : decode cX3_find 9 = .ok (.iconst 1, 1) := by decide +kernel
theorem dX3_find_10 : decode cX3_find 10 = .ok (.goto 17, 3) := by decide +kernel
theorem dX3_find_13 : decode cX3_find 13 = .ok (.aload_n 0, 1) := by decide +kernel
theorem dX3_find_14 : decode cX3_find 14 = .ok (.getfield 25, 3) := by decide +kernel
theorem dX3_find_17 : decode cX3_find 17 = .ok (.iload_n 1, 1) := by decide +kernel
theorem dX3_find_18 : decode cX3_find 18 = .ok (.baload, 1) := by decide +kernel
theorem dX3_find_19 : decode cX3_find 19 = .ok (.ifCond .eq 7, 3) := by decide +kernel
theorem dX3_find_22 : decode cX3_find 22 = .ok (.iconst 0, 1) := by decide +kernel
theorem dX3_find_23 : decode cX3_find 23 = .ok (.goto 4, 3) := by decide +kernel
theorem dX3_find_26 : decode cX3_find 26 = .ok (.iconst 2, 1) := by decide +kernel
theorem dX3_find_27 : decode cX3_find 27 = .ok (.invokevirtual 68, 3) := by decide +kernel
theorem dX3_find_30 : decode cX3_find 30 = .ok (.ifCond .ne 5, 3) := by decide +kernel
theorem dX3_find_33 : decode cX3_find 33 = .ok (.iconst 0, 1) := by decide +kernel
theorem dX3_find_34 : decode cX3_find 34 = .ok (.ireturn, 1) := by decide +kernel
theorem dX3_find_35 : decode cX3_find 35 = .ok (.aload_n 0, 1) := by decide +kernel
theorem dX3_find_36 : decode cX3_find 36 = .ok (.getfield 25, 3) := by decide +kernel
theorem dX3_find_39 : decode cX3_find 39 = .ok (.iload_n 1, 1) := by decide +kernel
theorem dX3_find_40 : decode cX3_find 40 = .ok (.iconst 0, 1) := by decide +kernel
theorem dX3_find_41 : decode cX3_find 41 = .ok (.bastore, 1) := by decide +kernel
theorem dX3_find_42 : decode cX3_find 42 = .ok (.aload_n 0, 1) := by decide +kernel
theorem dX3_find_43 : decode cX3_find 43 = .ok (.getfield 19, 3) := by decide +kernel
theorem dX3_find_46 : decode cX3_find 46 = .ok (.iload_n 1, 1) := by decide +kernel
theorem dX3_find_47 : decode cX3_find 47 = .ok (.iaload, 1) := by decide +kernel
theorem dX3_find_48 : decode cX3_find 48 = .ok (.ireturn, 1) := by decide +kernel
theorem dX3_isOver_0 : decode cX3_isOver 0 = .ok (.aload_n 0, 1) := by decide +kernel
theorem dX3_isOver_1 : decode cX3_isOver 1 = .ok (.getfield 22, 3) := by decide +kernel
theorem dX3_isOver_4 : decode cX3_isOver 4 = .ok (.iload_n 1, 1) := by decide +kernel
theorem dX3_isOver_5 : decode cX3_isOver 5 = .ok (.iaload, 1) := by decide +kernel
theorem dX3_isOver_6 : decode cX3_isOver 6 = .ok (.iconst 3, 1) := by decide +kernel
theorem dX3_isOver_7 : decode cX3_isOver 7 = .ok (.if_icmp .eq 22, 3) := by decide +kernel
theorem dX3_isOver_10 : decode cX3_isOver 10 = .ok (.aload_n 0, 1) := by decide +kernel
theorem dX3_isOver_11 : decode cX3_isOver 11 = .ok (.getfield 22, 3) := by decide +kernel
theorem dX3_isOver_14 : decode cX3_isOver 14 = .ok (.iload_n 1, 1) := by decide +kernel
theorem dX3_isOver_15 : decode cX3_isOver 15 = .ok (.iaload, 1) := by decide +kernel
theorem dX3_isOver_16 : decode cX3_isOver 16 = .ok (.iconst 1, 1) := by decide +kernel
theorem dX3_isOver_17 : decode cX3_isOver 17 = .ok (.if_icmp .ne 16, 3) := by decide +kernel
theorem dX3_isOver_20 : decode cX3_isOver 20 = .ok (.aload_n 0, 1) := by decide +kernel
theorem dX3_isOver_21 : decode cX3_isOver 21 = .ok (.getfield 35, 3) := by decide +kernel
theorem dX3_isOver_24 : decode cX3_isOver 24 = .ok (.iload_n 1, 1) := by decide +kernel
theorem dX3_isOver_25 : decode cX3_isOver 25 = .ok (.baload, 1) := by decide +kernel
theorem dX3_isOver_26 : decode cX3_isOver 26 = .ok (.ifCond .eq 7, 3) := by decide +kernel
theorem dX3_isOver_29 : decode cX3_isOver 29 = .ok (.iconst 1, 1) := by decide +kernel
theorem dX3_isOver_30 : decode cX3_isOver 30 = .ok (.goto 4, 3) := by decide +kernel
theorem dX3_isOver_33 : decode cX3_isOver 33 = .ok (.iconst 0, 1) := by decide +kernel
theorem dX3_isOver_34 : decode cX3_isOver 34 = .ok (.ireturn, 1) := by decide +kernel
theorem dX3_certify_0 : decode cX3_certify 0 = .ok (.iconst 0, 1) := by decide +kernel
theorem dX3_certify_1 : decode cX3_certify 1 = .ok (.istore_n 2, 1) := by decide +kernel
theorem dX3_certify_2 : decode cX3_certify 2 = .ok (.iconst 0, 1) := by decide +kernel
theorem dX3_certify_3 : decode cX3_certify 3 = .ok (.istore_n 3, 1) := by decide +kernel
theorem dX3_certify_4 : decode cX3_certify 4 = .ok (.iload_n 3, 1) := by decide +kernel
theorem dX3_certify_5 : decode cX3_certify 5 = .ok (.aload_n 0, 1) := by decide +kernel
theorem dX3_certify_6 : decode cX3_certify 6 = .ok (.getfield 54, 3) := by decide +kernel
theorem dX3_certify_9 : decode cX3_certify 9 = .ok (.if_icmp .ge 66, 3) := by decide +kernel
theorem dX3_certify_12 : decode cX3_certify 12 = .ok (.iload_n 1, 1) := by decide +kernel
theorem dX3_certify_13 : decode cX3_certify 13 = .ok (.invokestatic 65, 3) := by decide +kernel
theorem dX3_certify_16 : decode cX3_certify 16 = .ok (.ifCond .eq 59, 3) := by decide +kernel
theorem dX3_certify_19 : decode cX3_certify 19 = .ok (.aload_n 0, 1) := by decide +kernel
theorem dX3_certify_20 : decode cX3_certify 20 = .ok (.getfield 16, 3) := by decide +kernel
theorem dX3_certify_23 : decode cX3_certify 23 = .ok (.iload_n 3, 1) := by decide +kernel
theorem dX3_certify_24 : decode cX3_certify 24 = .ok (.iaload, 1) := by decide +kernel
theorem dX3_certify_25 : decode cX3_certify 25 = .ok (.iload_n 1, 1) := by decide +kernel
theorem dX3_certify_26 : decode cX3_certify 26 = .ok (.if_icmp .ne 43, 3) := by decide +kernel
theorem dX3_certify_29 : decode cX3_certify 29 = .ok (.aload_n 0, 1) := by decide +kernel
theorem dX3_certify_30 : decode cX3_certify 30 = .ok (.iload_n 3, 1) := by decide +kernel
theorem dX3_certify_31 : decode cX3_certify 31 = .ok (.invokevirtual 93, 3) := by decide +kernel
theorem dX3_certify_34 : decode cX3_certify 34 = .ok (.ifCond .eq 35, 3) := by decide +kernel
theorem dX3_certify_37 : decode cX3_certify 37 = .ok (.aload_n 0, 1) := by decide +kernel
theorem dX3_certify_38 : decode cX3_certify 38 = .ok (.getfield 25, 3) := by decide +kernel
theorem dX3_certify_41 : decode cX3_certify 41 = .ok (.iload_n 3, 1) := by decide +kernel
theorem dX3_certify_42 : decode cX3_certify 42 = .ok (.baload, 1) := by decide +kernel
theorem dX3_certify_43 : decode cX3_certify 43 = .ok (.ifCond .ne 26, 3) := by decide +kernel
theorem dX3_certify_46 : decode cX3_certify 46 = .ok (.aload_n 0, 1) := by decide +kernel
theorem dX3_certify_47 : decode cX3_certify 47 = .ok (.getfield 38, 3) := by decide +kernel
theorem dX3_certify_50 : decode cX3_certify 50 = .ok (.iload_n 3, 1) := by decide +kernel
theorem dX3_certify_51 : decode cX3_certify 51 = .ok (.iaload, 1) := by decide +kernel
theorem dX3_certify_52 : decode cX3_certify 52 = .ok (.iconst (-1), 1) := by decide +kernel
theorem dX3_certify_53 : decode cX3_certify 53 = .ok (.if_icmp .ne 16, 3) := by decide +kernel
theorem dX3_certify_56 : decode cX3_certify 56 = .ok (.aload_n 0, 1) := by decide +kernel
theorem dX3_certify_57 : decode cX3_certify 57 = .ok (.getfield 38, 3) := by decide +kernel
theorem dX3_certify_60 : decode cX3_certify 60 = .ok (.iload_n 3, 1) := by decide +kernel
theorem dX3_certify_61 : decode cX3_certify 61 = .ok (.aload_n 0, 1) := by decide +kernel
theorem dX3_certify_62 : decode cX3_certify 62 = .ok (.getfield 96, 3) := by decide +kernel
theorem dX3_certify_65 : decode cX3_certify 65 = .ok (.iastore, 1) := by decide +kernel
theorem dX3_certify_66 : decode cX3_certify 66 = .ok (.iinc 2 1, 3) := by decide +kernel
theorem dX3_certify_69 : decode cX3_certify 69 = .ok (.iinc 3 1, 3) := by decide +kernel
theorem dX3_certify_72 : decode cX3_certify 72 = .ok (.goto (-68), 3) := by decide +kernel
theorem dX3_certify_75 : decode cX3_certify 75 = .ok (.aload_n 0, 1) := by decide +kernel
theorem dX3_certify_76 : decode cX3_certify 76 = .ok (.iload_n 1, 1) := by decide +kernel
theorem dX3_certify_77 : decode cX3_certify 77 = .ok (.invokestatic 65, 3) := by decide +kernel
theorem dX3_certify_80 : decode cX3_certify 80 = .ok (.ifCond .ne 7, 3) := by decide +kernel
theorem dX3_certify_83 : decode cX3_certify 83 = .ok (.iconst 1, 1) := by decide +kernel
theorem dX3_certify_84 : decode cX3_certify 84 = .ok (.goto 12, 3) := by decide +kernel
theorem dX3_certify_87 : decode cX3_certify 87 = .ok (.iload_n 2, 1) := by decide +kernel
theorem dX3_certify_88 : decode cX3_certify 88 = .ok (.ifCond .ne 7, 3) := by decide +kernel
theorem dX3_certify_91 : decode cX3_certify 91 = .ok (.iconst 2, 1) := by decide +kernel
theorem dX3_certify_92 : decode cX3_certify 92 = .ok (.goto 4, 3) := by decide +kernel
theorem dX3_certify_95 : decode cX3_certify 95 = .ok (.iconst 0, 1) := by decide +kernel
theorem dX3_certify_96 : decode cX3_certify 96 = .ok (.invokevirtual 68, 3) := by decide +kernel
theorem dX3_certify_99 : decode cX3_certify 99 = .ok (.ifCond .ne 5, 3) := by decide +kernel
theorem dX3_certify_102 : decode cX3_certify 102 = .ok (.iconst 0, 1) := by decide +kernel
theorem dX3_certify_103 : decode cX3_certify 103 = .ok (.ireturn, 1) := by decide +kernel
theorem dX3_certify_104 : decode cX3_certify 104 = .ok (.aload_n 0, 1) := by decide +kernel
theorem dX3_certify_105 : decode cX3_certify 105 = .ok (.dup, 1) := by decide +kernel
theorem dX3_certify_106 : decode cX3_certify 106 = .ok (.getfield 96, 3) := by decide +kernel
theorem dX3_certify_109 : decode cX3_certify 109 = .ok (.iconst 1, 1) := by decide +kernel
theorem dX3_certify_110 : decode cX3_certify 110 = .ok (.iadd, 1) := by decide +kernel
theorem dX3_certify_111 : decode cX3_certify 111 = .ok (.putfield 96, 3) := by decide +kernel
theorem dX3_certify_114 : decode cX3_certify 114 = .ok (.iload_n 2, 1) := by decide +kernel
theorem dX3_certify_115 : decode cX3_certify 115 = .ok (.ireturn, 1) := by decide +kernel
theorem dX3_disks_0 : decode cX3_disks 0 = .ok (.aload_n 0, 1) := by decide +kernel
theorem dX3_disks_1 : decode cX3_disks 1 = .ok (.iconst 0, 1) := by decide +kernel
theorem dX3_disks_2 : decode cX3_disks 2 = .ok (.putfield 50, 3) := by decide +kernel
theorem dX3_disks_5 : decode cX3_disks 5 = .ok (.aload_n 0, 1) := by decide +kernel
theorem dX3_disks_6 : decode cX3_disks 6 = .ok (.getfield 54, 3) := by decide +kernel
theorem dX3_disks_9 : decode cX3_disks 9 = .ok (.ireturn, 1) := by decide +kernel
theorem dX3_isAsked_0 : decode cX3_isAsked 0 = .ok (.aload_n 0, 1) := by decide +kernel
theorem dX3_isAsked_1 : decode cX3_isAsked 1 = .ok (.aload_n 0, 1) := by decide +kernel
theorem dX3_isAsked_2 : decode cX3_isAsked 2 = .ok (.iload_n 1, 1) := by decide +kernel
theorem dX3_isAsked_3 : decode cX3_isAsked 3 = .ok (.invokevirtual 74, 3) := by decide +kernel
theorem dX3_isAsked_6 : decode cX3_isAsked 6 = .ok (.ifCond .eq 7, 3) := by decide +kernel
theorem dX3_isAsked_9 : decode cX3_isAsked 9 = .ok (.iconst 0, 1) := by decide +kernel
theorem dX3_isAsked_10 : decode cX3_isAsked 10 = .ok (.goto 4, 3) := by decide +kernel
theorem dX3_isAsked_13 : decode cX3_isAsked 13 = .ok (.iconst 1, 1) := by decide +kernel
theorem dX3_isAsked_14 : decode cX3_isAsked 14 = .ok (.invokevirtual 68, 3) := by decide +kernel
theorem dX3_isAsked_17 : decode cX3_isAsked 17 = .ok (.ireturn, 1) := by decide +kernel
theorem dX3_keeperOf_0 : decode cX3_keeperOf 0 = .ok (.aload_n 0, 1) := by decide +kernel
theorem dX3_keeperOf_1 : decode cX3_keeperOf 1 = .ok (.iload_n 1, 1) := by decide +kernel
theorem dX3_keeperOf_2 : decode cX3_keeperOf 2 = .ok (.invokevirtual 99, 3) := by decide +kernel
theorem dX3_keeperOf_5 : decode cX3_keeperOf 5 = .ok (.ifCond .eq 12, 3) := by decide +kernel
theorem dX3_keeperOf_8 : decode cX3_keeperOf 8 = .ok (.aload_n 0, 1) := by decide +kernel
theorem dX3_keeperOf_9 : decode cX3_keeperOf 9 = .ok (.getfield 16, 3) := by decide +kernel
theorem dX3_keeperOf_12 : decode cX3_keeperOf 12 = .ok (.iload_n 1, 1) := by decide +kernel
theorem dX3_keeperOf_13 : decode cX3_keeperOf 13 = .ok (.iaload, 1) := by decide +kernel
theorem dX3_keeperOf_14 : decode cX3_keeperOf 14 = .ok (.goto 4, 3) := by decide +kernel
theorem dX3_keeperOf_17 : decode cX3_keeperOf 17 = .ok (.iconst 0, 1) := by decide +kernel
theorem dX3_keeperOf_18 : decode cX3_keeperOf 18 = .ok (.ireturn, 1) := by decide +kernel
theorem dX3_keeperByLog_0 : decode cX3_keeperByLog 0 = .ok (.aload_n 0, 1) := by decide +kernel
theorem dX3_keeperByLog_1 : decode cX3_keeperByLog 1 = .ok (.iload_n 1, 1) := by decide +kernel
theorem dX3_keeperByLog_2 : decode cX3_keeperByLog 2 = .ok (.invokevirtual 99, 3) := by decide +kernel
theorem dX3_keeperByLog_5 : decode cX3_keeperByLog 5 = .ok (.ifCond .eq 12, 3) := by decide +kernel
theorem dX3_keeperByLog_8 : decode cX3_keeperByLog 8 = .ok (.aload_n 0, 1) := by decide +kernel
theorem dX3_keeperByLog_9 : decode cX3_keeperByLog 9 = .ok (.getfield 16, 3) := by decide +kernel
theorem dX3_keeperByLog_12 : decode cX3_keeperByLog 12 = .ok (.iload_n 1, 1) := by decide +kernel
theorem dX3_keeperByLog_13 : decode cX3_keeperByLog 13 = .ok (.iaload, 1) := by decide +kernel
theorem dX3_keeperByLog_14 : decode cX3_keeperByLog 14 = .ok (.goto 4, 3) := by decide +kernel
theorem dX3_keeperByLog_17 : decode cX3_keeperByLog 17 = .ok (.iconst 0, 1) := by decide +kernel
theorem dX3_keeperByLog_18 : decode cX3_keeperByLog 18 = .ok (.ireturn, 1) := by decide +kernel
theorem dX3_crateOf_0 : decode cX3_crateOf 0 = .ok (.aload_n 0, 1) := by decide +kernel
theorem dX3_crateOf_1 : decode cX3_crateOf 1 = .ok (.iload_n 1, 1) := by decide +kernel
theorem dX3_crateOf_2 : decode cX3_crateOf 2 = .ok (.invokevirtual 99, 3) := by decide +kernel
theorem dX3_crateOf_5 : decode cX3_crateOf 5 = .ok (.ifCond .eq 12, 3) := by decide +kernel
theorem dX3_crateOf_8 : decode cX3_crateOf 8 = .ok (.aload_n 0, 1) := by decide +kernel
theorem dX3_crateOf_9 : decode cX3_crateOf 9 = .ok (.getfield 19, 3) := by decide +kernel
theorem dX3_crateOf_12 : decode cX3_crateOf 12 = .ok (.iload_n 1, 1) := by decide +kernel
theorem dX3_crateOf_13 : decode cX3_crateOf 13 = .ok (.iaload, 1) := by decide +kernel
theorem dX3_crateOf_14 : decode cX3_crateOf 14 = .ok (.goto 4, 3) := by decide +kernel
theorem dX3_crateOf_17 : decode cX3_crateOf 17 = .ok (.iconst 0, 1) := by decide +kernel
theorem dX3_crateOf_18 : decode cX3_crateOf 18 = .ok (.ireturn, 1) := by decide +kernel
theorem dX3_stateOf_0 : decode cX3_stateOf 0 = .ok (.aload_n 0, 1) := by decide +kernel
theorem dX3_stateOf_1 : decode cX3_stateOf 1 = .ok (.iload_n 1, 1) := by decide +kernel
theorem dX3_stateOf_2 : decode cX3_stateOf 2 = .ok (.invokevirtual 99, 3) := by decide +kernel
theorem dX3_stateOf_5 : decode cX3_stateOf 5 = .ok (.ifCond .eq 12, 3) := by decide +kernel
theorem dX3_stateOf_8 : decode cX3_stateOf 8 = .ok (.aload_n 0, 1) := by decide +kernel
theorem dX3_stateOf_9 : decode cX3_stateOf 9 = .ok (.getfield 22, 3) := by decide +kernel
theorem dX3_stateOf_12 : decode cX3_stateOf 12 = .ok (.iload_n 1, 1) := by decide +kernel
theorem dX3_stateOf_13 : decode cX3_stateOf 13 = .ok (.iaload, 1) := by decide +kernel
theorem dX3_stateOf_14 : decode cX3_stateOf 14 = .ok (.goto 4, 3) := by decide +kernel
theorem dX3_stateOf_17 : decode cX3_stateOf 17 = .ok (.iconst 0, 1) := by decide +kernel
theorem dX3_stateOf_18 : decode cX3_stateOf 18 = .ok (.ireturn, 1) := by decide +kernel
theorem dX3_isDone_0 : decode cX3_isDone 0 = .ok (.aload_n 0, 1) := by decide +kernel
theorem dX3_isDone_1 : decode cX3_isDone 1 = .ok (.iload_n 1, 1) := by decide +kernel
theorem dX3_isDone_2 : decode cX3_isDone 2 = .ok (.invokevirtual 99, 3) := by decide +kernel
theorem dX3_isDone_5 : decode cX3_isDone 5 = .ok (.ifCond .eq 15, 3) := by decide +kernel
theorem dX3_isDone_8 : decode cX3_isDone 8 = .ok (.aload_n 0, 1) := by decide +kernel
theorem dX3_isDone_9 : decode cX3_isDone 9 = .ok (.iload_n 1, 1) := by decide +kernel
theorem dX3_isDone_10 : decode cX3_isDone 10 = .ok (.invokevirtual 93, 3) := by decide +kernel
theorem dX3_isDone_13 : decode cX3_isDone 13 = .ok (.ifCond .eq 7, 3) := by decide +kernel
theorem dX3_isDone_16 : decode cX3_isDone 16 = .ok (.iconst 1, 1) := by decide +kernel
theorem dX3_isDone_17 : decode cX3_isDone 17 = .ok (.goto 4, 3) := by decide +kernel
theorem dX3_isDone_20 : decode cX3_isDone 20 = .ok (.iconst 0, 1) := by decide +kernel
theorem dX3_isDone_21 : decode cX3_isDone 21 = .ok (.ireturn, 1) := by decide +kernel
theorem dX3_offeredTo_0 : decode cX3_offeredTo 0 = .ok (.aload_n 0, 1) := by decide +kernel
theorem dX3_offeredTo_1 : decode cX3_offeredTo 1 = .ok (.iload_n 1, 1) := by decide +kernel
theorem dX3_offeredTo_2 : decode cX3_offeredTo 2 = .ok (.invokevirtual 99, 3) := by decide +kernel
theorem dX3_offeredTo_5 : decode cX3_offeredTo 5 = .ok (.ifCond .eq 12, 3) := by decide +kernel
theorem dX3_offeredTo_8 : decode cX3_offeredTo 8 = .ok (.aload_n 0, 1) := by decide +kernel
theorem dX3_offeredTo_9 : decode cX3_offeredTo 9 = .ok (.getfield 29, 3) := by decide +kernel
theorem dX3_offeredTo_12 : decode cX3_offeredTo 12 = .ok (.iload_n 1, 1) := by decide +kernel
theorem dX3_offeredTo_13 : decode cX3_offeredTo 13 = .ok (.iaload, 1) := by decide +kernel
theorem dX3_offeredTo_14 : decode cX3_offeredTo 14 = .ok (.goto 4, 3) := by decide +kernel
theorem dX3_offeredTo_17 : decode cX3_offeredTo 17 = .ok (.iconst 0, 1) := by decide +kernel
theorem dX3_offeredTo_18 : decode cX3_offeredTo 18 = .ok (.ireturn, 1) := by decide +kernel
theorem dX3_certificateOf_0 : decode cX3_certificateOf 0 = .ok (.aload_n 0, 1) := by decide +kernel
theorem dX3_certificateOf_1 : decode cX3_certificateOf 1 = .ok (.iload_n 1, 1) := by decide +kernel
theorem dX3_certificateOf_2 : decode cX3_certificateOf 2 = .ok (.invokevirtual 99, 3) := by decide +kernel
theorem dX3_certificateOf_5 : decode cX3_certificateOf 5 = .ok (.ifCond .eq 12, 3) := by decide +kernel
theorem dX3_certificateOf_8 : decode cX3_certificateOf 8 = .ok (.aload_n 0, 1) := by decide +kernel
theorem dX3_certificateOf_9 : decode cX3_certificateOf 9 = .ok (.getfield 38, 3) := by decide +kernel
theorem dX3_certificateOf_12 : decode cX3_certificateOf 12 = .ok (.iload_n 1, 1) := by decide +kernel
theorem dX3_certificateOf_13 : decode cX3_certificateOf 13 = .ok (.iaload, 1) := by decide +kernel
theorem dX3_certificateOf_14 : decode cX3_certificateOf 14 = .ok (.goto 4, 3) := by decide +kernel
theorem dX3_certificateOf_17 : decode cX3_certificateOf 17 = .ok (.iconst 0, 1) := by decide +kernel
theorem dX3_certificateOf_18 : decode cX3_certificateOf 18 = .ok (.ireturn, 1) := by decide +kernel
theorem dX3_crateKeeper_0 : decode cX3_crateKeeper 0 = .ok (.aload_n 0, 1) := by decide +kernel
theorem dX3_crateKeeper_1 : decode cX3_crateKeeper 1 = .ok (.iload_n 1, 1) := by decide +kernel
theorem dX3_crateKeeper_2 : decode cX3_crateKeeper 2 = .ok (.invokestatic 80, 3) := by decide +kernel
theorem dX3_crateKeeper_5 : decode cX3_crateKeeper 5 = .ok (.ifCond .eq 7, 3) := by decide +kernel
theorem dX3_crateKeeper_8 : decode cX3_crateKeeper 8 = .ok (.iconst 0, 1) := by decide +kernel
theorem dX3_crateKeeper_9 : decode cX3_crateKeeper 9 = .ok (.goto 4, 3) := by decide +kernel
theorem dX3_crateKeeper_12 : decode cX3_crateKeeper 12 = .ok (.iconst 1, 1) := by decide +kernel
theorem dX3_crateKeeper_13 : decode cX3_crateKeeper 13 = .ok (.invokevirtual 68, 3) := by decide +kernel
theorem dX3_crateKeeper_16 : decode cX3_crateKeeper 16 = .ok (.ifCond .eq 12, 3) := by decide +kernel
theorem dX3_crateKeeper_19 : decode cX3_crateKeeper 19 = .ok (.aload_n 0, 1) := by decide +kernel
theorem dX3_crateKeeper_20 : decode cX3_crateKeeper 20 = .ok (.getfield 41, 3) := by decide +kernel
theorem dX3_crateKeeper_23 : decode cX3_crateKeeper 23 = .ok (.iload_n 1, 1) := by decide +kernel
theorem dX3_crateKeeper_24 : decode cX3_crateKeeper 24 = .ok (.iaload, 1) := by decide +kernel
theorem dX3_crateKeeper_25 : decode cX3_crateKeeper 25 = .ok (.goto 4, 3) := by decide +kernel
theorem dX3_crateKeeper_28 : decode cX3_crateKeeper 28 = .ok (.iconst 0, 1) := by decide +kernel
theorem dX3_crateKeeper_29 : decode cX3_crateKeeper 29 = .ok (.ireturn, 1) := by decide +kernel
theorem dX3_sealOf_0 : decode cX3_sealOf 0 = .ok (.aload_n 0, 1) := by decide +kernel
theorem dX3_sealOf_1 : decode cX3_sealOf 1 = .ok (.iload_n 1, 1) := by decide +kernel
theorem dX3_sealOf_2 : decode cX3_sealOf 2 = .ok (.invokestatic 80, 3) := by decide +kernel
theorem dX3_sealOf_5 : decode cX3_sealOf 5 = .ok (.ifCond .eq 7, 3) := by decide +kernel
theorem dX3_sealOf_8 : decode cX3_sealOf 8 = .ok (.iconst 0, 1) := by decide +kernel
theorem dX3_sealOf_9 : decode cX3_sealOf 9 = .ok (.goto 4, 3) := by decide +kernel
theorem dX3_sealOf_12 : decode cX3_sealOf 12 = .ok (.iconst 1, 1) := by decide +kernel
theorem dX3_sealOf_13 : decode cX3_sealOf 13 = .ok (.invokevirtual 68, 3) := by decide +kernel
theorem dX3_sealOf_16 : decode cX3_sealOf 16 = .ok (.ifCond .eq 12, 3) := by decide +kernel
theorem dX3_sealOf_19 : decode cX3_sealOf 19 = .ok (.aload_n 0, 1) := by decide +kernel
theorem dX3_sealOf_20 : decode cX3_sealOf 20 = .ok (.getfield 44, 3) := by decide +kernel
theorem dX3_sealOf_23 : decode cX3_sealOf 23 = .ok (.iload_n 1, 1) := by decide +kernel
theorem dX3_sealOf_24 : decode cX3_sealOf 24 = .ok (.iaload, 1) := by decide +kernel
theorem dX3_sealOf_25 : decode cX3_sealOf 25 = .ok (.goto 4, 3) := by decide +kernel
theorem dX3_sealOf_28 : decode cX3_sealOf 28 = .ok (.iconst 0, 1) := by decide +kernel
theorem dX3_sealOf_29 : decode cX3_sealOf 29 = .ok (.ireturn, 1) := by decide +kernel
theorem dX3_has_0 : decode cX3_has 0 = .ok (.aload_n 0, 1) := by decide +kernel
theorem dX3_has_1 : decode cX3_has 1 = .ok (.iload_n 1, 1) := by decide +kernel
theorem dX3_has_2 : decode cX3_has 2 = .ok (.invokestatic 65, 3) := by decide +kernel
theorem dX3_has_5 : decode cX3_has 5 = .ok (.ifCond .eq 7, 3) := by decide +kernel
theorem dX3_has_8 : decode cX3_has 8 = .ok (.iconst 0, 1) := by decide +kernel
theorem dX3_has_9 : decode cX3_has 9 = .ok (.goto 4, 3) := by decide +kernel
theorem dX3_has_12 : decode cX3_has 12 = .ok (.iconst 1, 1) := by decide +kernel
theorem dX3_has_13 : decode cX3_has 13 = .ok (.invokevirtual 68, 3) := by decide +kernel
theorem dX3_has_16 : decode cX3_has 16 = .ok (.ifCond .ne 5, 3) := by decide +kernel
theorem dX3_has_19 : decode cX3_has 19 = .ok (.iconst 0, 1) := by decide +kernel
theorem dX3_has_20 : decode cX3_has 20 = .ok (.ireturn, 1) := by decide +kernel
theorem dX3_has_21 : decode cX3_has 21 = .ok (.iconst 0, 1) := by decide +kernel
theorem dX3_has_22 : decode cX3_has 22 = .ok (.istore_n 2, 1) := by decide +kernel
theorem dX3_has_23 : decode cX3_has 23 = .ok (.iconst 0, 1) := by decide +kernel
theorem dX3_has_24 : decode cX3_has 24 = .ok (.istore_n 3, 1) := by decide +kernel
theorem dX3_has_25 : decode cX3_has 25 = .ok (.iload_n 3, 1) := by decide +kernel
theorem dX3_has_26 : decode cX3_has 26 = .ok (.aload_n 0, 1) := by decide +kernel
theorem dX3_has_27 : decode cX3_has 27 = .ok (.getfield 54, 3) := by decide +kernel
theorem dX3_has_30 : decode cX3_has 30 = .ok (.if_icmp .ge 27, 3) := by decide +kernel
theorem dX3_has_33 : decode cX3_has 33 = .ok (.iload_n 2, 1) := by decide +kernel
theorem dX3_has_34 : decode cX3_has 34 = .ok (.aload_n 0, 1) := by decide +kernel
theorem dX3_has_35 : decode cX3_has 35 = .ok (.getfield 16, 3) := by decide +kernel
theorem dX3_has_38 : decode cX3_has 38 = .ok (.iload_n 3, 1) := by decide +kernel
theorem dX3_has_39 : decode cX3_has 39 = .ok (.iaload, 1) := by decide +kernel
theorem dX3_has_40 : decode cX3_has 40 = .ok (.iload_n 1, 1) := by decide +kernel
theorem dX3_has_41 : decode cX3_has 41 = .ok (.if_icmp .ne 7, 3) := by decide +kernel
theorem dX3_has_44 : decode cX3_has 44 = .ok (.iconst 1, 1) := by decide +kernel
theorem dX3_has_45 : decode cX3_has 45 = .ok (.goto 4, 3) := by decide +kernel
theorem dX3_has_48 : decode cX3_has 48 = .ok (.iconst 0, 1) := by decide +kernel
theorem dX3_has_49 : decode cX3_has 49 = .ok (.iadd, 1) := by decide +kernel
theorem dX3_has_50 : decode cX3_has 50 = .ok (.istore_n 2, 1) := by decide +kernel
theorem dX3_has_51 : decode cX3_has 51 = .ok (.iinc 3 1, 3) := by decide +kernel
theorem dX3_has_54 : decode cX3_has 54 = .ok (.goto (-29), 3) := by decide +kernel
theorem dX3_has_57 : decode cX3_has 57 = .ok (.iload_n 2, 1) := by decide +kernel
theorem dX3_has_58 : decode cX3_has 58 = .ok (.ireturn, 1) := by decide +kernel
theorem dX3_missing_0 : decode cX3_missing 0 = .ok (.aload_n 0, 1) := by decide +kernel
theorem dX3_missing_1 : decode cX3_missing 1 = .ok (.iconst 0, 1) := by decide +kernel
theorem dX3_missing_2 : decode cX3_missing 2 = .ok (.putfield 50, 3) := by decide +kernel
theorem dX3_missing_5 : decode cX3_missing 5 = .ok (.iconst 0, 1) := by decide +kernel
theorem dX3_missing_6 : decode cX3_missing 6 = .ok (.istore_n 1, 1) := by decide +kernel
theorem dX3_missing_7 : decode cX3_missing 7 = .ok (.iconst 0, 1) := by decide +kernel
theorem dX3_missing_8 : decode cX3_missing 8 = .ok (.istore_n 2, 1) := by decide +kernel
theorem dX3_missing_9 : decode cX3_missing 9 = .ok (.iload_n 2, 1) := by decide +kernel
theorem dX3_missing_10 : decode cX3_missing 10 = .ok (.aload_n 0, 1) := by decide +kernel
theorem dX3_missing_11 : decode cX3_missing 11 = .ok (.getfield 54, 3) := by decide +kernel
theorem dX3_missing_14 : decode cX3_missing 14 = .ok (.if_icmp .ge 26, 3) := by decide +kernel
theorem dX3_missing_17 : decode cX3_missing 17 = .ok (.iload_n 1, 1) := by decide +kernel
theorem dX3_missing_18 : decode cX3_missing 18 = .ok (.aload_n 0, 1) := by decide +kernel
theorem dX3_missing_19 : decode cX3_missing 19 = .ok (.getfield 25, 3) := by decide +kernel
theorem dX3_missing_22 : decode cX3_missing 22 = .ok (.iload_n 2, 1) := by decide +kernel
theorem dX3_missing_23 : decode cX3_missing 23 = .ok (.baload, 1) := by decide +kernel
theorem dX3_missing_24 : decode cX3_missing 24 = .ok (.ifCond .eq 7, 3) := by decide +kernel
theorem dX3_missing_27 : decode cX3_missing 27 = .ok (.iconst 1, 1) := by decide +kernel
theorem dX3_missing_28 : decode cX3_missing 28 = .ok (.goto 4, 3) := by decide +kernel
theorem dX3_missing_31 : decode cX3_missing 31 = .ok (.iconst 0, 1) := by decide +kernel
theorem dX3_missing_32 : decode cX3_missing 32 = .ok (.iadd, 1) := by decide +kernel
theorem dX3_missing_33 : decode cX3_missing 33 = .ok (.istore_n 1, 1) := by decide +kernel
theorem dX3_missing_34 : decode cX3_missing 34 = .ok (.iinc 2 1, 3) := by decide +kernel
theorem dX3_missing_37 : decode cX3_missing 37 = .ok (.goto (-28), 3) := by decide +kernel
theorem dX3_missing_40 : decode cX3_missing 40 = .ok (.iload_n 1, 1) := by decide +kernel
theorem dX3_missing_41 : decode cX3_missing 41 = .ok (.ireturn, 1) := by decide +kernel
theorem dX3_oddCounts_0 : decode cX3_oddCounts 0 = .ok (.aload_n 0, 1) := by decide +kernel
theorem dX3_oddCounts_1 : decode cX3_oddCounts 1 = .ok (.iconst 0, 1) := by decide +kernel
theorem dX3_oddCounts_2 : decode cX3_oddCounts 2 = .ok (.putfield 50, 3) := by decide +kernel
theorem dX3_oddCounts_5 : decode cX3_oddCounts 5 = .ok (.aload_n 0, 1) := by decide +kernel
theorem dX3_oddCounts_6 : decode cX3_oddCounts 6 = .ok (.getfield 90, 3) := by decide +kernel
theorem dX3_oddCounts_9 : decode cX3_oddCounts 9 = .ok (.ireturn, 1) := by decide +kernel
theorem dX3_logged_0 : decode cX3_logged 0 = .ok (.aload_n 0, 1) := by decide +kernel
theorem dX3_logged_1 : decode cX3_logged 1 = .ok (.iconst 0, 1) := by decide +kernel
theorem dX3_logged_2 : decode cX3_logged 2 = .ok (.putfield 50, 3) := by decide +kernel
theorem dX3_logged_5 : decode cX3_logged 5 = .ok (.aload_n 0, 1) := by decide +kernel
theorem dX3_logged_6 : decode cX3_logged 6 = .ok (.getfield 71, 3) := by decide +kernel
theorem dX3_logged_9 : decode cX3_logged 9 = .ok (.ireturn, 1) := by decide +kernel
theorem dX3_certificates_0 : decode cX3_certificates 0 = .ok (.aload_n 0, 1) := by decide +kernel
theorem dX3_certificates_1 : decode cX3_certificates 1 = .ok (.iconst 0, 1) := by decide +kernel
theorem dX3_certificates_2 : decode cX3_certificates 2 = .ok (.putfield 50, 3) := by decide +kernel
theorem dX3_certificates_5 : decode cX3_certificates 5 = .ok (.aload_n 0, 1) := by decide +kernel
theorem dX3_certificates_6 : decode cX3_certificates 6 = .ok (.getfield 96, 3) := by decide +kernel
theorem dX3_certificates_9 : decode cX3_certificates 9 = .ok (.ireturn, 1) := by decide +kernel
theorem dL_bring_0 : decode cL_bring 0 = .ok (.aload 4, 2) := by decide +kernel
theorem dL_bring_2 : decode cL_bring 2 = .ok (.iconst 0, 1) := by decide +kernel
theorem dL_bring_3 : decode cL_bring 3 = .ok (.aload_n 0, 1) := by decide +kernel
theorem dL_bring_4 : decode cL_bring 4 = .ok (.iload_n 1, 1) := by decide +kernel
theorem dL_bring_5 : decode cL_bring 5 = .ok (.iload_n 2, 1) := by decide +kernel
theorem dL_bring_6 : decode cL_bring 6 = .ok (.iload_n 3, 1) := by decide +kernel
theorem dL_bring_7 : decode cL_bring 7 = .ok (.invokevirtual 7, 3) := by decide +kernel
theorem dL_bring_10 : decode cL_bring 10 = .ok (.i2l, 1) := by decide +kernel
theorem dL_bring_11 : decode cL_bring 11 = .ok (.lastore, 1) := by decide +kernel
theorem dL_bring_12 : decode cL_bring 12 = .ok (.goto 15, 3) := by decide +kernel
theorem dL_bring_15 : decode cL_bring 15 = .ok (.astore 5, 2) := by decide +kernel
theorem dL_bring_17 : decode cL_bring 17 = .ok (.iconst 1, 1) := by decide +kernel
theorem dL_bring_18 : decode cL_bring 18 = .ok (.ireturn, 1) := by decide +kernel
theorem dL_bring_19 : decode cL_bring 19 = .ok (.astore 5, 2) := by decide +kernel
theorem dL_bring_21 : decode cL_bring 21 = .ok (.iconst 2, 1) := by decide +kernel
theorem dL_bring_22 : decode cL_bring 22 = .ok (.ireturn, 1) := by decide +kernel
theorem dL_bring_23 : decode cL_bring 23 = .ok (.astore 5, 2) := by decide +kernel
theorem dL_bring_25 : decode cL_bring 25 = .ok (.iconst 3, 1) := by decide +kernel
theorem dL_bring_26 : decode cL_bring 26 = .ok (.ireturn, 1) := by decide +kernel
theorem dL_bring_27 : decode cL_bring 27 = .ok (.iconst 0, 1) := by decide +kernel
theorem dL_bring_28 : decode cL_bring 28 = .ok (.ireturn, 1) := by decide +kernel
theorem dL_offer_0 : decode cL_offer 0 = .ok (.aload_n 3, 1) := by decide +kernel
theorem dL_offer_1 : decode cL_offer 1 = .ok (.iconst 0, 1) := by decide +kernel
theorem dL_offer_2 : decode cL_offer 2 = .ok (.aload_n 0, 1) := by decide +kernel
theorem dL_offer_3 : decode cL_offer 3 = .ok (.iload_n 1, 1) := by decide +kernel
theorem dL_offer_4 : decode cL_offer 4 = .ok (.iload_n 2, 1) := by decide +kernel
theorem dL_offer_5 : decode cL_offer 5 = .ok (.invokevirtual 19, 3) := by decide +kernel
theorem dL_offer_8 : decode cL_offer 8 = .ok (.i2l, 1) := by decide +kernel
theorem dL_offer_9 : decode cL_offer 9 = .ok (.lastore, 1) := by decide +kernel
theorem dL_offer_10 : decode cL_offer 10 = .ok (.goto 15, 3) := by decide +kernel
theorem dL_offer_13 : decode cL_offer 13 = .ok (.astore 4, 2) := by decide +kernel
theorem dL_offer_15 : decode cL_offer 15 = .ok (.iconst 1, 1) := by decide +kernel
theorem dL_offer_16 : decode cL_offer 16 = .ok (.ireturn, 1) := by decide +kernel
theorem dL_offer_17 : decode cL_offer 17 = .ok (.astore 4, 2) := by decide +kernel
theorem dL_offer_19 : decode cL_offer 19 = .ok (.iconst 2, 1) := by decide +kernel
theorem dL_offer_20 : decode cL_offer 20 = .ok (.ireturn, 1) := by decide +kernel
theorem dL_offer_21 : decode cL_offer 21 = .ok (.astore 4, 2) := by decide +kernel
theorem dL_offer_23 : decode cL_offer 23 = .ok (.iconst 3, 1) := by decide +kernel
theorem dL_offer_24 : decode cL_offer 24 = .ok (.ireturn, 1) := by decide +kernel
theorem dL_offer_25 : decode cL_offer 25 = .ok (.iconst 0, 1) := by decide +kernel
theorem dL_offer_26 : decode cL_offer 26 = .ok (.ireturn, 1) := by decide +kernel
theorem dL_answer_0 : decode cL_answer 0 = .ok (.aload_n 3, 1) := by decide +kernel
theorem dL_answer_1 : decode cL_answer 1 = .ok (.iconst 0, 1) := by decide +kernel
theorem dL_answer_2 : decode cL_answer 2 = .ok (.aload_n 0, 1) := by decide +kernel
theorem dL_answer_3 : decode cL_answer 3 = .ok (.iload_n 1, 1) := by decide +kernel
theorem dL_answer_4 : decode cL_answer 4 = .ok (.iload_n 2, 1) := by decide +kernel
theorem dL_answer_5 : decode cL_answer 5 = .ok (.invokevirtual 23, 3) := by decide +kernel
theorem dL_answer_8 : decode cL_answer 8 = .ok (.i2l, 1) := by decide +kernel
theorem dL_answer_9 : decode cL_answer 9 = .ok (.lastore, 1) := by decide +kernel
theorem dL_answer_10 : decode cL_answer 10 = .ok (.goto 11, 3) := by decide +kernel
theorem dL_answer_13 : decode cL_answer 13 = .ok (.astore 4, 2) := by decide +kernel
theorem dL_answer_15 : decode cL_answer 15 = .ok (.iconst 1, 1) := by decide +kernel
theorem dL_answer_16 : decode cL_answer 16 = .ok (.ireturn, 1) := by decide +kernel
theorem dL_answer_17 : decode cL_answer 17 = .ok (.astore 4, 2) := by decide +kernel
theorem dL_answer_19 : decode cL_answer 19 = .ok (.iconst 2, 1) := by decide +kernel
theorem dL_answer_20 : decode cL_answer 20 = .ok (.ireturn, 1) := by decide +kernel
theorem dL_answer_21 : decode cL_answer 21 = .ok (.iconst 0, 1) := by decide +kernel
theorem dL_answer_22 : decode cL_answer 22 = .ok (.ireturn, 1) := by decide +kernel
theorem dL_pack_0 : decode cL_pack 0 = .ok (.aload_n 3, 1) := by decide +kernel
theorem dL_pack_1 : decode cL_pack 1 = .ok (.iconst 0, 1) := by decide +kernel
theorem dL_pack_2 : decode cL_pack 2 = .ok (.aload_n 0, 1) := by decide +kernel
theorem dL_pack_3 : decode cL_pack 3 = .ok (.iload_n 1, 1) := by decide +kernel
theorem dL_pack_4 : decode cL_pack 4 = .ok (.iload_n 2, 1) := by decide +kernel
theorem dL_pack_5 : decode cL_pack 5 = .ok (.invokevirtual 27, 3) := by decide +kernel
theorem dL_pack_8 : decode cL_pack 8 = .ok (.i2l, 1) := by decide +kernel
theorem dL_pack_9 : decode cL_pack 9 = .ok (.lastore, 1) := by decide +kernel
theorem dL_pack_10 : decode cL_pack 10 = .ok (.goto 11, 3) := by decide +kernel
theorem dL_pack_13 : decode cL_pack 13 = .ok (.astore 4, 2) := by decide +kernel
theorem dL_pack_15 : decode cL_pack 15 = .ok (.iconst 1, 1) := by decide +kernel
theorem dL_pack_16 : decode cL_pack 16 = .ok (.ireturn, 1) := by decide +kernel
theorem dL_pack_17 : decode cL_pack 17 = .ok (.astore 4, 2) := by decide +kernel
theorem dL_pack_19 : decode cL_pack 19 = .ok (.iconst 2, 1) := by decide +kernel
theorem dL_pack_20 : decode cL_pack 20 = .ok (.ireturn, 1) := by decide +kernel
theorem dL_pack_21 : decode cL_pack 21 = .ok (.iconst 0, 1) := by decide +kernel
theorem dL_pack_22 : decode cL_pack 22 = .ok (.ireturn, 1) := by decide +kernel
theorem dL_unpack_0 : decode cL_unpack 0 = .ok (.aload_n 2, 1) := by decide +kernel
theorem dL_unpack_1 : decode cL_unpack 1 = .ok (.iconst 0, 1) := by decide +kernel
theorem dL_unpack_2 : decode cL_unpack 2 = .ok (.aload_n 0, 1) := by decide +kernel
theorem dL_unpack_3 : decode cL_unpack 3 = .ok (.iload_n 1, 1) := by decide +kernel
theorem dL_unpack_4 : decode cL_unpack 4 = .ok (.invokevirtual 30, 3) := by decide +kernel
theorem dL_unpack_7 : decode cL_unpack 7 = .ok (.i2l, 1) := by decide +kernel
theorem dL_unpack_8 : decode cL_unpack 8 = .ok (.lastore, 1) := by decide +kernel
theorem dL_unpack_9 : decode cL_unpack 9 = .ok (.goto 9, 3) := by decide +kernel
theorem dL_unpack_12 : decode cL_unpack 12 = .ok (.astore_n 3, 1) := by decide +kernel
theorem dL_unpack_13 : decode cL_unpack 13 = .ok (.iconst 1, 1) := by decide +kernel
theorem dL_unpack_14 : decode cL_unpack 14 = .ok (.ireturn, 1) := by decide +kernel
theorem dL_unpack_15 : decode cL_unpack 15 = .ok (.astore_n 3, 1) := by decide +kernel
theorem dL_unpack_16 : decode cL_unpack 16 = .ok (.iconst 2, 1) := by decide +kernel
theorem dL_unpack_17 : decode cL_unpack 17 = .ok (.ireturn, 1) := by decide +kernel
theorem dL_unpack_18 : decode cL_unpack 18 = .ok (.iconst 0, 1) := by decide +kernel
theorem dL_unpack_19 : decode cL_unpack 19 = .ok (.ireturn, 1) := by decide +kernel
theorem dL_seal_0 : decode cL_seal 0 = .ok (.aload_n 2, 1) := by decide +kernel
theorem dL_seal_1 : decode cL_seal 1 = .ok (.iconst 0, 1) := by decide +kernel
theorem dL_seal_2 : decode cL_seal 2 = .ok (.aload_n 0, 1) := by decide +kernel
theorem dL_seal_3 : decode cL_seal 3 = .ok (.iload_n 1, 1) := by decide +kernel
theorem dL_seal_4 : decode cL_seal 4 = .ok (.invokevirtual 34, 3) := by decide +kernel
theorem dL_seal_7 : decode cL_seal 7 = .ok (.i2l, 1) := by decide +kernel
theorem dL_seal_8 : decode cL_seal 8 = .ok (.lastore, 1) := by decide +kernel
theorem dL_seal_9 : decode cL_seal 9 = .ok (.goto 9, 3) := by decide +kernel
theorem dL_seal_12 : decode cL_seal 12 = .ok (.astore_n 3, 1) := by decide +kernel
theorem dL_seal_13 : decode cL_seal 13 = .ok (.iconst 1, 1) := by decide +kernel
theorem dL_seal_14 : decode cL_seal 14 = .ok (.ireturn, 1) := by decide +kernel
theorem dL_seal_15 : decode cL_seal 15 = .ok (.astore_n 3, 1) := by decide +kernel
theorem dL_seal_16 : decode cL_seal 16 = .ok (.iconst 2, 1) := by decide +kernel
theorem dL_seal_17 : decode cL_seal 17 = .ok (.ireturn, 1) := by decide +kernel
theorem dL_seal_18 : decode cL_seal 18 = .ok (.iconst 0, 1) := by decide +kernel
theorem dL_seal_19 : decode cL_seal 19 = .ok (.ireturn, 1) := by decide +kernel
theorem dL_open_0 : decode cL_open 0 = .ok (.aload_n 3, 1) := by decide +kernel
theorem dL_open_1 : decode cL_open 1 = .ok (.iconst 0, 1) := by decide +kernel
theorem dL_open_2 : decode cL_open 2 = .ok (.aload_n 0, 1) := by decide +kernel
theorem dL_open_3 : decode cL_open 3 = .ok (.iload_n 1, 1) := by decide +kernel
theorem dL_open_4 : decode cL_open 4 = .ok (.iload_n 2, 1) := by decide +kernel
theorem dL_open_5 : decode cL_open 5 = .ok (.invokevirtual 37, 3) := by decide +kernel
theorem dL_open_8 : decode cL_open 8 = .ok (.i2l, 1) := by decide +kernel
theorem dL_open_9 : decode cL_open 9 = .ok (.lastore, 1) := by decide +kernel
theorem dL_open_10 : decode cL_open 10 = .ok (.goto 15, 3) := by decide +kernel
theorem dL_open_13 : decode cL_open 13 = .ok (.astore 4, 2) := by decide +kernel
theorem dL_open_15 : decode cL_open 15 = .ok (.iconst 1, 1) := by decide +kernel
theorem dL_open_16 : decode cL_open 16 = .ok (.ireturn, 1) := by decide +kernel
theorem dL_open_17 : decode cL_open 17 = .ok (.astore 4, 2) := by decide +kernel
theorem dL_open_19 : decode cL_open 19 = .ok (.iconst 2, 1) := by decide +kernel
theorem dL_open_20 : decode cL_open 20 = .ok (.ireturn, 1) := by decide +kernel
theorem dL_open_21 : decode cL_open 21 = .ok (.astore 4, 2) := by decide +kernel
theorem dL_open_23 : decode cL_open 23 = .ok (.iconst 3, 1) := by decide +kernel
theorem dL_open_24 : decode cL_open 24 = .ok (.ireturn, 1) := by decide +kernel
theorem dL_open_25 : decode cL_open 25 = .ok (.iconst 0, 1) := by decide +kernel
theorem dL_open_26 : decode cL_open 26 = .ok (.ireturn, 1) := by decide +kernel
theorem dL_carry_0 : decode cL_carry 0 = .ok (.aload_n 3, 1) := by decide +kernel
theorem dL_carry_1 : decode cL_carry 1 = .ok (.iconst 0, 1) := by decide +kernel
theorem dL_carry_2 : decode cL_carry 2 = .ok (.aload_n 0, 1) := by decide +kernel
theorem dL_carry_3 : decode cL_carry 3 = .ok (.iload_n 1, 1) := by decide +kernel
theorem dL_carry_4 : decode cL_carry 4 = .ok (.iload_n 2, 1) := by decide +kernel
theorem dL_carry_5 : decode cL_carry 5 = .ok (.invokevirtual 40, 3) := by decide +kernel
theorem dL_carry_8 : decode cL_carry 8 = .ok (.i2l, 1) := by decide +kernel
theorem dL_carry_9 : decode cL_carry 9 = .ok (.lastore, 1) := by decide +kernel
theorem dL_carry_10 : decode cL_carry 10 = .ok (.goto 15, 3) := by decide +kernel
theorem dL_carry_13 : decode cL_carry 13 = .ok (.astore 4, 2) := by decide +kernel
theorem dL_carry_15 : decode cL_carry 15 = .ok (.iconst 1, 1) := by decide +kernel
theorem dL_carry_16 : decode cL_carry 16 = .ok (.ireturn, 1) := by decide +kernel
theorem dL_carry_17 : decode cL_carry 17 = .ok (.astore 4, 2) := by decide +kernel
theorem dL_carry_19 : decode cL_carry 19 = .ok (.iconst 2, 1) := by decide +kernel
theorem dL_carry_20 : decode cL_carry 20 = .ok (.ireturn, 1) := by decide +kernel
theorem dL_carry_21 : decode cL_carry 21 = .ok (.astore 4, 2) := by decide +kernel
theorem dL_carry_23 : decode cL_carry 23 = .ok (.iconst 3, 1) := by decide +kernel
theorem dL_carry_24 : decode cL_carry 24 = .ok (.ireturn, 1) := by decide +kernel
theorem dL_carry_25 : decode cL_carry 25 = .ok (.iconst 0, 1) := by decide +kernel
theorem dL_carry_26 : decode cL_carry 26 = .ok (.ireturn, 1) := by decide +kernel
theorem dL_wipe_0 : decode cL_wipe 0 = .ok (.aload 4, 2) := by decide +kernel
theorem dL_wipe_2 : decode cL_wipe 2 = .ok (.iconst 0, 1) := by decide +kernel
theorem dL_wipe_3 : decode cL_wipe 3 = .ok (.aload_n 0, 1) := by decide +kernel
theorem dL_wipe_4 : decode cL_wipe 4 = .ok (.iload_n 1, 1) := by decide +kernel
theorem dL_wipe_5 : decode cL_wipe 5 = .ok (.iload_n 2, 1) := by decide +kernel
theorem dL_wipe_6 : decode cL_wipe 6 = .ok (.iload_n 3, 1) := by decide +kernel
theorem dL_wipe_7 : decode cL_wipe 7 = .ok (.invokevirtual 43, 3) := by decide +kernel
theorem dL_wipe_10 : decode cL_wipe 10 = .ok (.i2l, 1) := by decide +kernel
theorem dL_wipe_11 : decode cL_wipe 11 = .ok (.lastore, 1) := by decide +kernel
theorem dL_wipe_12 : decode cL_wipe 12 = .ok (.goto 15, 3) := by decide +kernel
theorem dL_wipe_15 : decode cL_wipe 15 = .ok (.astore 5, 2) := by decide +kernel
theorem dL_wipe_17 : decode cL_wipe 17 = .ok (.iconst 1, 1) := by decide +kernel
theorem dL_wipe_18 : decode cL_wipe 18 = .ok (.ireturn, 1) := by decide +kernel
theorem dL_wipe_19 : decode cL_wipe 19 = .ok (.astore 5, 2) := by decide +kernel
theorem dL_wipe_21 : decode cL_wipe 21 = .ok (.iconst 2, 1) := by decide +kernel
theorem dL_wipe_22 : decode cL_wipe 22 = .ok (.ireturn, 1) := by decide +kernel
theorem dL_wipe_23 : decode cL_wipe 23 = .ok (.astore 5, 2) := by decide +kernel
theorem dL_wipe_25 : decode cL_wipe 25 = .ok (.iconst 3, 1) := by decide +kernel
theorem dL_wipe_26 : decode cL_wipe 26 = .ok (.ireturn, 1) := by decide +kernel
theorem dL_wipe_27 : decode cL_wipe 27 = .ok (.iconst 0, 1) := by decide +kernel
theorem dL_wipe_28 : decode cL_wipe 28 = .ok (.ireturn, 1) := by decide +kernel
theorem dL_smash_0 : decode cL_smash 0 = .ok (.aload_n 3, 1) := by decide +kernel
theorem dL_smash_1 : decode cL_smash 1 = .ok (.iconst 0, 1) := by decide +kernel
theorem dL_smash_2 : decode cL_smash 2 = .ok (.aload_n 0, 1) := by decide +kernel
theorem dL_smash_3 : decode cL_smash 3 = .ok (.iload_n 1, 1) := by decide +kernel
theorem dL_smash_4 : decode cL_smash 4 = .ok (.iload_n 2, 1) := by decide +kernel
theorem dL_smash_5 : decode cL_smash 5 = .ok (.invokevirtual 46, 3) := by decide +kernel
theorem dL_smash_8 : decode cL_smash 8 = .ok (.i2l, 1) := by decide +kernel
theorem dL_smash_9 : decode cL_smash 9 = .ok (.lastore, 1) := by decide +kernel
theorem dL_smash_10 : decode cL_smash 10 = .ok (.goto 15, 3) := by decide +kernel
theorem dL_smash_13 : decode cL_smash 13 = .ok (.astore 4, 2) := by decide +kernel
theorem dL_smash_15 : decode cL_smash 15 = .ok (.iconst 1, 1) := by decide +kernel
theorem dL_smash_16 : decode cL_smash 16 = .ok (.ireturn, 1) := by decide +kernel
theorem dL_smash_17 : decode cL_smash 17 = .ok (.astore 4, 2) := by decide +kernel
theorem dL_smash_19 : decode cL_smash 19 = .ok (.iconst 2, 1) := by decide +kernel
theorem dL_smash_20 : decode cL_smash 20 = .ok (.ireturn, 1) := by decide +kernel
theorem dL_smash_21 : decode cL_smash 21 = .ok (.astore 4, 2) := by decide +kernel
theorem dL_smash_23 : decode cL_smash 23 = .ok (.iconst 3, 1) := by decide +kernel
theorem dL_smash_24 : decode cL_smash 24 = .ok (.ireturn, 1) := by decide +kernel
theorem dL_smash_25 : decode cL_smash 25 = .ok (.iconst 0, 1) := by decide +kernel
theorem dL_smash_26 : decode cL_smash 26 = .ok (.ireturn, 1) := by decide +kernel
theorem dL_check_0 : decode cL_check 0 = .ok (.aload 4, 2) := by decide +kernel
theorem dL_check_2 : decode cL_check 2 = .ok (.iconst 0, 1) := by decide +kernel
theorem dL_check_3 : decode cL_check 3 = .ok (.aload_n 0, 1) := by decide +kernel
theorem dL_check_4 : decode cL_check 4 = .ok (.iload_n 1, 1) := by decide +kernel
theorem dL_check_5 : decode cL_check 5 = .ok (.iload_n 2, 1) := by decide +kernel
theorem dL_check_6 : decode cL_check 6 = .ok (.iload_n 3, 1) := by decide +kernel
theorem dL_check_7 : decode cL_check 7 = .ok (.invokevirtual 49, 3) := by decide +kernel
theorem dL_check_10 : decode cL_check 10 = .ok (.i2l, 1) := by decide +kernel
theorem dL_check_11 : decode cL_check 11 = .ok (.lastore, 1) := by decide +kernel
theorem dL_check_12 : decode cL_check 12 = .ok (.goto 15, 3) := by decide +kernel
theorem dL_check_15 : decode cL_check 15 = .ok (.astore 5, 2) := by decide +kernel
theorem dL_check_17 : decode cL_check 17 = .ok (.iconst 1, 1) := by decide +kernel
theorem dL_check_18 : decode cL_check 18 = .ok (.ireturn, 1) := by decide +kernel
theorem dL_check_19 : decode cL_check 19 = .ok (.astore 5, 2) := by decide +kernel
theorem dL_check_21 : decode cL_check 21 = .ok (.iconst 2, 1) := by decide +kernel
theorem dL_check_22 : decode cL_check 22 = .ok (.ireturn, 1) := by decide +kernel
theorem dL_check_23 : decode cL_check 23 = .ok (.astore 5, 2) := by decide +kernel
theorem dL_check_25 : decode cL_check 25 = .ok (.iconst 3, 1) := by decide +kernel
theorem dL_check_26 : decode cL_check 26 = .ok (.ireturn, 1) := by decide +kernel
theorem dL_check_27 : decode cL_check 27 = .ok (.iconst 0, 1) := by decide +kernel
theorem dL_check_28 : decode cL_check 28 = .ok (.ireturn, 1) := by decide +kernel
theorem dL_lose_0 : decode cL_lose 0 = .ok (.aload_n 2, 1) := by decide +kernel
theorem dL_lose_1 : decode cL_lose 1 = .ok (.iconst 0, 1) := by decide +kernel
theorem dL_lose_2 : decode cL_lose 2 = .ok (.aload_n 0, 1) := by decide +kernel
theorem dL_lose_3 : decode cL_lose 3 = .ok (.iload_n 1, 1) := by decide +kernel
theorem dL_lose_4 : decode cL_lose 4 = .ok (.invokevirtual 53, 3) := by decide +kernel
theorem dL_lose_7 : decode cL_lose 7 = .ok (.i2l, 1) := by decide +kernel
theorem dL_lose_8 : decode cL_lose 8 = .ok (.lastore, 1) := by decide +kernel
theorem dL_lose_9 : decode cL_lose 9 = .ok (.goto 9, 3) := by decide +kernel
theorem dL_lose_12 : decode cL_lose 12 = .ok (.astore_n 3, 1) := by decide +kernel
theorem dL_lose_13 : decode cL_lose 13 = .ok (.iconst 1, 1) := by decide +kernel
theorem dL_lose_14 : decode cL_lose 14 = .ok (.ireturn, 1) := by decide +kernel
theorem dL_lose_15 : decode cL_lose 15 = .ok (.astore_n 3, 1) := by decide +kernel
theorem dL_lose_16 : decode cL_lose 16 = .ok (.iconst 2, 1) := by decide +kernel
theorem dL_lose_17 : decode cL_lose 17 = .ok (.ireturn, 1) := by decide +kernel
theorem dL_lose_18 : decode cL_lose 18 = .ok (.iconst 0, 1) := by decide +kernel
theorem dL_lose_19 : decode cL_lose 19 = .ok (.ireturn, 1) := by decide +kernel
theorem dL_find_0 : decode cL_find 0 = .ok (.aload_n 2, 1) := by decide +kernel
theorem dL_find_1 : decode cL_find 1 = .ok (.iconst 0, 1) := by decide +kernel
theorem dL_find_2 : decode cL_find 2 = .ok (.aload_n 0, 1) := by decide +kernel
theorem dL_find_3 : decode cL_find 3 = .ok (.iload_n 1, 1) := by decide +kernel
theorem dL_find_4 : decode cL_find 4 = .ok (.invokevirtual 56, 3) := by decide +kernel
theorem dL_find_7 : decode cL_find 7 = .ok (.i2l, 1) := by decide +kernel
theorem dL_find_8 : decode cL_find 8 = .ok (.lastore, 1) := by decide +kernel
theorem dL_find_9 : decode cL_find 9 = .ok (.goto 9, 3) := by decide +kernel
theorem dL_find_12 : decode cL_find 12 = .ok (.astore_n 3, 1) := by decide +kernel
theorem dL_find_13 : decode cL_find 13 = .ok (.iconst 1, 1) := by decide +kernel
theorem dL_find_14 : decode cL_find 14 = .ok (.ireturn, 1) := by decide +kernel
theorem dL_find_15 : decode cL_find 15 = .ok (.astore_n 3, 1) := by decide +kernel
theorem dL_find_16 : decode cL_find 16 = .ok (.iconst 2, 1) := by decide +kernel
theorem dL_find_17 : decode cL_find 17 = .ok (.ireturn, 1) := by decide +kernel
theorem dL_find_18 : decode cL_find 18 = .ok (.iconst 0, 1) := by decide +kernel
theorem dL_find_19 : decode cL_find 19 = .ok (.ireturn, 1) := by decide +kernel
theorem dL_certify_0 : decode cL_certify 0 = .ok (.aload_n 2, 1) := by decide +kernel
theorem dL_certify_1 : decode cL_certify 1 = .ok (.iconst 0, 1) := by decide +kernel
theorem dL_certify_2 : decode cL_certify 2 = .ok (.aload_n 0, 1) := by decide +kernel
theorem dL_certify_3 : decode cL_certify 3 = .ok (.iload_n 1, 1) := by decide +kernel
theorem dL_certify_4 : decode cL_certify 4 = .ok (.invokevirtual 59, 3) := by decide +kernel
theorem dL_certify_7 : decode cL_certify 7 = .ok (.i2l, 1) := by decide +kernel
theorem dL_certify_8 : decode cL_certify 8 = .ok (.lastore, 1) := by decide +kernel
theorem dL_certify_9 : decode cL_certify 9 = .ok (.goto 9, 3) := by decide +kernel
theorem dL_certify_12 : decode cL_certify 12 = .ok (.astore_n 3, 1) := by decide +kernel
theorem dL_certify_13 : decode cL_certify 13 = .ok (.iconst 1, 1) := by decide +kernel
theorem dL_certify_14 : decode cL_certify 14 = .ok (.ireturn, 1) := by decide +kernel
theorem dL_certify_15 : decode cL_certify 15 = .ok (.astore_n 3, 1) := by decide +kernel
theorem dL_certify_16 : decode cL_certify 16 = .ok (.iconst 2, 1) := by decide +kernel
theorem dL_certify_17 : decode cL_certify 17 = .ok (.ireturn, 1) := by decide +kernel
theorem dL_certify_18 : decode cL_certify 18 = .ok (.iconst 0, 1) := by decide +kernel
theorem dL_certify_19 : decode cL_certify 19 = .ok (.ireturn, 1) := by decide +kernel
theorem dL_keeperOf_0 : decode cL_keeperOf 0 = .ok (.aload_n 2, 1) := by decide +kernel
theorem dL_keeperOf_1 : decode cL_keeperOf 1 = .ok (.iconst 0, 1) := by decide +kernel
theorem dL_keeperOf_2 : decode cL_keeperOf 2 = .ok (.aload_n 0, 1) := by decide +kernel
theorem dL_keeperOf_3 : decode cL_keeperOf 3 = .ok (.iload_n 1, 1) := by decide +kernel
theorem dL_keeperOf_4 : decode cL_keeperOf 4 = .ok (.invokevirtual 64, 3) := by decide +kernel
theorem dL_keeperOf_7 : decode cL_keeperOf 7 = .ok (.i2l, 1) := by decide +kernel
theorem dL_keeperOf_8 : decode cL_keeperOf 8 = .ok (.lastore, 1) := by decide +kernel
theorem dL_keeperOf_9 : decode cL_keeperOf 9 = .ok (.goto 6, 3) := by decide +kernel
theorem dL_keeperOf_12 : decode cL_keeperOf 12 = .ok (.astore_n 3, 1) := by decide +kernel
theorem dL_keeperOf_13 : decode cL_keeperOf 13 = .ok (.iconst 1, 1) := by decide +kernel
theorem dL_keeperOf_14 : decode cL_keeperOf 14 = .ok (.ireturn, 1) := by decide +kernel
theorem dL_keeperOf_15 : decode cL_keeperOf 15 = .ok (.iconst 0, 1) := by decide +kernel
theorem dL_keeperOf_16 : decode cL_keeperOf 16 = .ok (.ireturn, 1) := by decide +kernel
theorem dL_keeperByLog_0 : decode cL_keeperByLog 0 = .ok (.aload_n 2, 1) := by decide +kernel
theorem dL_keeperByLog_1 : decode cL_keeperByLog 1 = .ok (.iconst 0, 1) := by decide +kernel
theorem dL_keeperByLog_2 : decode cL_keeperByLog 2 = .ok (.aload_n 0, 1) := by decide +kernel
theorem dL_keeperByLog_3 : decode cL_keeperByLog 3 = .ok (.iload_n 1, 1) := by decide +kernel
theorem dL_keeperByLog_4 : decode cL_keeperByLog 4 = .ok (.invokevirtual 67, 3) := by decide +kernel
theorem dL_keeperByLog_7 : decode cL_keeperByLog 7 = .ok (.i2l, 1) := by decide +kernel
theorem dL_keeperByLog_8 : decode cL_keeperByLog 8 = .ok (.lastore, 1) := by decide +kernel
theorem dL_keeperByLog_9 : decode cL_keeperByLog 9 = .ok (.goto 6, 3) := by decide +kernel
theorem dL_keeperByLog_12 : decode cL_keeperByLog 12 = .ok (.astore_n 3, 1) := by decide +kernel
theorem dL_keeperByLog_13 : decode cL_keeperByLog 13 = .ok (.iconst 1, 1) := by decide +kernel
theorem dL_keeperByLog_14 : decode cL_keeperByLog 14 = .ok (.ireturn, 1) := by decide +kernel
theorem dL_keeperByLog_15 : decode cL_keeperByLog 15 = .ok (.iconst 0, 1) := by decide +kernel
theorem dL_keeperByLog_16 : decode cL_keeperByLog 16 = .ok (.ireturn, 1) := by decide +kernel
theorem dL_crateOf_0 : decode cL_crateOf 0 = .ok (.aload_n 2, 1) := by decide +kernel
theorem dL_crateOf_1 : decode cL_crateOf 1 = .ok (.iconst 0, 1) := by decide +kernel
theorem dL_crateOf_2 : decode cL_crateOf 2 = .ok (.aload_n 0, 1) := by decide +kernel
theorem dL_crateOf_3 : decode cL_crateOf 3 = .ok (.iload_n 1, 1) := by decide +kernel
theorem dL_crateOf_4 : decode cL_crateOf 4 = .ok (.invokevirtual 70, 3) := by decide +kernel
theorem dL_crateOf_7 : decode cL_crateOf 7 = .ok (.i2l, 1) := by decide +kernel
theorem dL_crateOf_8 : decode cL_crateOf 8 = .ok (.lastore, 1) := by decide +kernel
theorem dL_crateOf_9 : decode cL_crateOf 9 = .ok (.goto 6, 3) := by decide +kernel
theorem dL_crateOf_12 : decode cL_crateOf 12 = .ok (.astore_n 3, 1) := by decide +kernel
theorem dL_crateOf_13 : decode cL_crateOf 13 = .ok (.iconst 1, 1) := by decide +kernel
theorem dL_crateOf_14 : decode cL_crateOf 14 = .ok (.ireturn, 1) := by decide +kernel
theorem dL_crateOf_15 : decode cL_crateOf 15 = .ok (.iconst 0, 1) := by decide +kernel
theorem dL_crateOf_16 : decode cL_crateOf 16 = .ok (.ireturn, 1) := by decide +kernel
theorem dL_stateOf_0 : decode cL_stateOf 0 = .ok (.aload_n 2, 1) := by decide +kernel
theorem dL_stateOf_1 : decode cL_stateOf 1 = .ok (.iconst 0, 1) := by decide +kernel
theorem dL_stateOf_2 : decode cL_stateOf 2 = .ok (.aload_n 0, 1) := by decide +kernel
theorem dL_stateOf_3 : decode cL_stateOf 3 = .ok (.iload_n 1, 1) := by decide +kernel
theorem dL_stateOf_4 : decode cL_stateOf 4 = .ok (.invokevirtual 73, 3) := by decide +kernel
theorem dL_stateOf_7 : decode cL_stateOf 7 = .ok (.i2l, 1) := by decide +kernel
theorem dL_stateOf_8 : decode cL_stateOf 8 = .ok (.lastore, 1) := by decide +kernel
theorem dL_stateOf_9 : decode cL_stateOf 9 = .ok (.goto 6, 3) := by decide +kernel
theorem dL_stateOf_12 : decode cL_stateOf 12 = .ok (.astore_n 3, 1) := by decide +kernel
theorem dL_stateOf_13 : decode cL_stateOf 13 = .ok (.iconst 1, 1) := by decide +kernel
theorem dL_stateOf_14 : decode cL_stateOf 14 = .ok (.ireturn, 1) := by decide +kernel
theorem dL_stateOf_15 : decode cL_stateOf 15 = .ok (.iconst 0, 1) := by decide +kernel
theorem dL_stateOf_16 : decode cL_stateOf 16 = .ok (.ireturn, 1) := by decide +kernel
theorem dL_isDone_0 : decode cL_isDone 0 = .ok (.aload_n 2, 1) := by decide +kernel
theorem dL_isDone_1 : decode cL_isDone 1 = .ok (.iconst 0, 1) := by decide +kernel
theorem dL_isDone_2 : decode cL_isDone 2 = .ok (.aload_n 0, 1) := by decide +kernel
theorem dL_isDone_3 : decode cL_isDone 3 = .ok (.iload_n 1, 1) := by decide +kernel
theorem dL_isDone_4 : decode cL_isDone 4 = .ok (.invokevirtual 76, 3) := by decide +kernel
theorem dL_isDone_7 : decode cL_isDone 7 = .ok (.ifCond .eq 7, 3) := by decide +kernel
theorem dL_isDone_10 : decode cL_isDone 10 = .ok (.lconst 1, 1) := by decide +kernel
theorem dL_isDone_11 : decode cL_isDone 11 = .ok (.goto 4, 3) := by decide +kernel
theorem dL_isDone_14 : decode cL_isDone 14 = .ok (.lconst 0, 1) := by decide +kernel
theorem dL_isDone_15 : decode cL_isDone 15 = .ok (.lastore, 1) := by decide +kernel
theorem dL_isDone_16 : decode cL_isDone 16 = .ok (.goto 6, 3) := by decide +kernel
theorem dL_isDone_19 : decode cL_isDone 19 = .ok (.astore_n 3, 1) := by decide +kernel
theorem dL_isDone_20 : decode cL_isDone 20 = .ok (.iconst 1, 1) := by decide +kernel
theorem dL_isDone_21 : decode cL_isDone 21 = .ok (.ireturn, 1) := by decide +kernel
theorem dL_isDone_22 : decode cL_isDone 22 = .ok (.iconst 0, 1) := by decide +kernel
theorem dL_isDone_23 : decode cL_isDone 23 = .ok (.ireturn, 1) := by decide +kernel
theorem dL_offeredTo_0 : decode cL_offeredTo 0 = .ok (.aload_n 2, 1) := by decide +kernel
theorem dL_offeredTo_1 : decode cL_offeredTo 1 = .ok (.iconst 0, 1) := by decide +kernel
theorem dL_offeredTo_2 : decode cL_offeredTo 2 = .ok (.aload_n 0, 1) := by decide +kernel
theorem dL_offeredTo_3 : decode cL_offeredTo 3 = .ok (.iload_n 1, 1) := by decide +kernel
theorem dL_offeredTo_4 : decode cL_offeredTo 4 = .ok (.invokevirtual 80, 3) := by decide +kernel
theorem dL_offeredTo_7 : decode cL_offeredTo 7 = .ok (.i2l, 1) := by decide +kernel
theorem dL_offeredTo_8 : decode cL_offeredTo 8 = .ok (.lastore, 1) := by decide +kernel
theorem dL_offeredTo_9 : decode cL_offeredTo 9 = .ok (.goto 6, 3) := by decide +kernel
theorem dL_offeredTo_12 : decode cL_offeredTo 12 = .ok (.astore_n 3, 1) := by decide +kernel
theorem dL_offeredTo_13 : decode cL_offeredTo 13 = .ok (.iconst 1, 1) := by decide +kernel
theorem dL_offeredTo_14 : decode cL_offeredTo 14 = .ok (.ireturn, 1) := by decide +kernel
theorem dL_offeredTo_15 : decode cL_offeredTo 15 = .ok (.iconst 0, 1) := by decide +kernel
theorem dL_offeredTo_16 : decode cL_offeredTo 16 = .ok (.ireturn, 1) := by decide +kernel
theorem dL_certificateOf_0 : decode cL_certificateOf 0 = .ok (.aload_n 2, 1) := by decide +kernel
theorem dL_certificateOf_1 : decode cL_certificateOf 1 = .ok (.iconst 0, 1) := by decide +kernel
theorem dL_certificateOf_2 : decode cL_certificateOf 2 = .ok (.aload_n 0, 1) := by decide +kernel
theorem dL_certificateOf_3 : decode cL_certificateOf 3 = .ok (.iload_n 1, 1) := by decide +kernel
theorem dL_certificateOf_4 : decode cL_certificateOf 4 = .ok (.invokevirtual 83, 3) := by decide +kernel
theorem dL_certificateOf_7 : decode cL_certificateOf 7 = .ok (.i2l, 1) := by decide +kernel
theorem dL_certificateOf_8 : decode cL_certificateOf 8 = .ok (.lastore, 1) := by decide +kernel
theorem dL_certificateOf_9 : decode cL_certificateOf 9 = .ok (.goto 6, 3) := by decide +kernel
theorem dL_certificateOf_12 : decode cL_certificateOf 12 = .ok (.astore_n 3, 1) := by decide +kernel
theorem dL_certificateOf_13 : decode cL_certificateOf 13 = .ok (.iconst 1, 1) := by decide +kernel
theorem dL_certificateOf_14 : decode cL_certificateOf 14 = .ok (.ireturn, 1) := by decide +kernel
theorem dL_certificateOf_15 : decode cL_certificateOf 15 = .ok (.iconst 0, 1) := by decide +kernel
theorem dL_certificateOf_16 : decode cL_certificateOf 16 = .ok (.ireturn, 1) := by decide +kernel
theorem dL_crateKeeper_0 : decode cL_crateKeeper 0 = .ok (.aload_n 2, 1) := by decide +kernel
theorem dL_crateKeeper_1 : decode cL_crateKeeper 1 = .ok (.iconst 0, 1) := by decide +kernel
theorem dL_crateKeeper_2 : decode cL_crateKeeper 2 = .ok (.aload_n 0, 1) := by decide +kernel
theorem dL_crateKeeper_3 : decode cL_crateKeeper 3 = .ok (.iload_n 1, 1) := by decide +kernel
theorem dL_crateKeeper_4 : decode cL_crateKeeper 4 = .ok (.invokevirtual 86, 3) := by decide +kernel
theorem dL_crateKeeper_7 : decode cL_crateKeeper 7 = .ok (.i2l, 1) := by decide +kernel
theorem dL_crateKeeper_8 : decode cL_crateKeeper 8 = .ok (.lastore, 1) := by decide +kernel
theorem dL_crateKeeper_9 : decode cL_crateKeeper 9 = .ok (.goto 6, 3) := by decide +kernel
theorem dL_crateKeeper_12 : decode cL_crateKeeper 12 = .ok (.astore_n 3, 1) := by decide +kernel
theorem dL_crateKeeper_13 : decode cL_crateKeeper 13 = .ok (.iconst 1, 1) := by decide +kernel
theorem dL_crateKeeper_14 : decode cL_crateKeeper 14 = .ok (.ireturn, 1) := by decide +kernel
theorem dL_crateKeeper_15 : decode cL_crateKeeper 15 = .ok (.iconst 0, 1) := by decide +kernel
theorem dL_crateKeeper_16 : decode cL_crateKeeper 16 = .ok (.ireturn, 1) := by decide +kernel
theorem dL_sealOf_0 : decode cL_sealOf 0 = .ok (.aload_n 2, 1) := by decide +kernel
theorem dL_sealOf_1 : decode cL_sealOf 1 = .ok (.iconst 0, 1) := by decide +kernel
theorem dL_sealOf_2 : decode cL_sealOf 2 = .ok (.aload_n 0, 1) := by decide +kernel
theorem dL_sealOf_3 : decode cL_sealOf 3 = .ok (.iload_n 1, 1) := by decide +kernel
theorem dL_sealOf_4 : decode cL_sealOf 4 = .ok (.invokevirtual 89, 3) := by decide +kernel
theorem dL_sealOf_7 : decode cL_sealOf 7 = .ok (.i2l, 1) := by decide +kernel
theorem dL_sealOf_8 : decode cL_sealOf 8 = .ok (.lastore, 1) := by decide +kernel
theorem dL_sealOf_9 : decode cL_sealOf 9 = .ok (.goto 6, 3) := by decide +kernel
theorem dL_sealOf_12 : decode cL_sealOf 12 = .ok (.astore_n 3, 1) := by decide +kernel
theorem dL_sealOf_13 : decode cL_sealOf 13 = .ok (.iconst 1, 1) := by decide +kernel
theorem dL_sealOf_14 : decode cL_sealOf 14 = .ok (.ireturn, 1) := by decide +kernel
theorem dL_sealOf_15 : decode cL_sealOf 15 = .ok (.iconst 0, 1) := by decide +kernel
theorem dL_sealOf_16 : decode cL_sealOf 16 = .ok (.ireturn, 1) := by decide +kernel
theorem dL_has_0 : decode cL_has 0 = .ok (.aload_n 2, 1) := by decide +kernel
theorem dL_has_1 : decode cL_has 1 = .ok (.iconst 0, 1) := by decide +kernel
theorem dL_has_2 : decode cL_has 2 = .ok (.aload_n 0, 1) := by decide +kernel
theorem dL_has_3 : decode cL_has 3 = .ok (.iload_n 1, 1) := by decide +kernel
theorem dL_has_4 : decode cL_has 4 = .ok (.invokevirtual 92, 3) := by decide +kernel
theorem dL_has_7 : decode cL_has 7 = .ok (.i2l, 1) := by decide +kernel
theorem dL_has_8 : decode cL_has 8 = .ok (.lastore, 1) := by decide +kernel
theorem dL_has_9 : decode cL_has 9 = .ok (.goto 6, 3) := by decide +kernel
theorem dL_has_12 : decode cL_has 12 = .ok (.astore_n 3, 1) := by decide +kernel
theorem dL_has_13 : decode cL_has 13 = .ok (.iconst 1, 1) := by decide +kernel
theorem dL_has_14 : decode cL_has 14 = .ok (.ireturn, 1) := by decide +kernel
theorem dL_has_15 : decode cL_has 15 = .ok (.iconst 0, 1) := by decide +kernel
theorem dL_has_16 : decode cL_has 16 = .ok (.ireturn, 1) := by decide +kernel
theorem dL_law_0 : decode cL_law 0 = .ok (.new 8, 3) := by decide +kernel
theorem dL_law_3 : decode cL_law 3 = .ok (.dup, 1) := by decide +kernel
theorem dL_law_4 : decode cL_law 4 = .ok (.invokespecial 95, 3) := by decide +kernel
theorem dL_law_7 : decode cL_law 7 = .ok (.astore_n 1, 1) := by decide +kernel
theorem dL_law_8 : decode cL_law 8 = .ok (.new 96, 3) := by decide +kernel
theorem dL_law_11 : decode cL_law 11 = .ok (.dup, 1) := by decide +kernel
theorem dL_law_12 : decode cL_law 12 = .ok (.invokespecial 98, 3) := by decide +kernel
theorem dL_law_15 : decode cL_law 15 = .ok (.astore_n 2, 1) := by decide +kernel
theorem dL_law_16 : decode cL_law 16 = .ok (.iconst 1, 1) := by decide +kernel
theorem dL_law_17 : decode cL_law 17 = .ok (.newarray .long, 2) := by decide +kernel
theorem dL_law_19 : decode cL_law 19 = .ok (.astore_n 3, 1) := by decide +kernel
theorem dL_law_20 : decode cL_law 20 = .ok (.iconst 0, 1) := by decide +kernel
theorem dL_law_21 : decode cL_law 21 = .ok (.istore 4, 2) := by decide +kernel
theorem dL_law_23 : decode cL_law 23 = .ok (.iload 4, 2) := by decide +kernel
theorem dL_law_25 : decode cL_law 25 = .ok (.aload_n 0, 1) := by decide +kernel
theorem dL_law_26 : decode cL_law 26 = .ok (.arraylength, 1) := by decide +kernel
theorem dL_law_27 : decode cL_law 27 = .ok (.iconst 4, 1) := by decide +kernel
theorem dL_law_28 : decode cL_law 28 = .ok (.isub, 1) := by decide +kernel
theorem dL_law_29 : decode cL_law 29 = .ok (.if_icmp .gt 1737, 3) := by decide +kernel
theorem dL_law_32 : decode cL_law 32 = .ok (.aload_n 0, 1) := by decide +kernel
theorem dL_law_33 : decode cL_law 33 = .ok (.iload 4, 2) := by decide +kernel
theorem dL_law_35 : decode cL_law 35 = .ok (.iaload, 1) := by decide +kernel
theorem dL_law_36 : decode cL_law 36 = .ok (.bipush 31, 2) := by decide +kernel
theorem dL_law_38 : decode cL_law 38 = .ok (.iand, 1) := by decide +kernel
theorem dL_law_39 : decode cL_law 39 = .ok (.tableswitch 1721 0 28 #[129, 209, 277, 361, 429, 485, 541, 609, 677, 757, 825, 921, 977, 1033, 1089, 1102, 1158, 1214, 1270, 1326, 1389, 1445, 1501, 1557, 1613, 1669, 1682, 1695, 1708], 129) := by decide +kernel
theorem dL_law_168 : decode cL_law 168 = .ok (.aload_n 1, 1) := by decide +kernel
theorem dL_law_169 : decode cL_law 169 = .ok (.aload_n 0, 1) := by decide +kernel
theorem dL_law_170 : decode cL_law 170 = .ok (.iload 4, 2) := by decide +kernel
theorem dL_law_172 : decode cL_law 172 = .ok (.iconst 1, 1) := by decide +kernel
theorem dL_law_173 : decode cL_law 173 = .ok (.iadd, 1) := by decide +kernel
theorem dL_law_174 : decode cL_law 174 = .ok (.iaload, 1) := by decide +kernel
theorem dL_law_175 : decode cL_law 175 = .ok (.aload_n 0, 1) := by decide +kernel
theorem dL_law_176 : decode cL_law 176 = .ok (.iload 4, 2) := by decide +kernel
theorem dL_law_178 : decode cL_law 178 = .ok (.iconst 2, 1) := by decide +kernel
theorem dL_law_179 : decode cL_law 179 = .ok (.iadd, 1) := by decide +kernel
theorem dL_law_180 : decode cL_law 180 = .ok (.iaload, 1) := by decide +kernel
theorem dL_law_181 : decode cL_law 181 = .ok (.aload_n 0, 1) := by decide +kernel
theorem dL_law_182 : decode cL_law 182 = .ok (.iload 4, 2) := by decide +kernel
theorem dL_law_184 : decode cL_law 184 = .ok (.iconst 3, 1) := by decide +kernel
theorem dL_law_185 : decode cL_law 185 = .ok (.iadd, 1) := by decide +kernel
theorem dL_law_186 : decode cL_law 186 = .ok (.iaload, 1) := by decide +kernel
theorem dL_law_187 : decode cL_law 187 = .ok (.aload_n 3, 1) := by decide +kernel
theorem dL_law_188 : decode cL_law 188 = .ok (.invokestatic 99, 3) := by decide +kernel
theorem dL_law_191 : decode cL_law 191 = .ok (.istore 5, 2) := by decide +kernel
theorem dL_law_193 : decode cL_law 193 = .ok (.aload_n 2, 1) := by decide +kernel
theorem dL_law_194 : decode cL_law 194 = .ok (.aload_n 0, 1) := by decide +kernel
theorem dL_law_195 : decode cL_law 195 = .ok (.iload 4, 2) := by decide +kernel
theorem dL_law_197 : decode cL_law 197 = .ok (.iconst 1, 1) := by decide +kernel
theorem dL_law_198 : decode cL_law 198 = .ok (.iadd, 1) := by decide +kernel
theorem dL_law_199 : decode cL_law 199 = .ok (.iaload, 1) := by decide +kernel
theorem dL_law_200 : decode cL_law 200 = .ok (.aload_n 0, 1) := by decide +kernel
theorem dL_law_201 : decode cL_law 201 = .ok (.iload 4, 2) := by decide +kernel
theorem dL_law_203 : decode cL_law 203 = .ok (.iconst 2, 1) := by decide +kernel
theorem dL_law_204 : decode cL_law 204 = .ok (.iadd, 1) := by decide +kernel
theorem dL_law_205 : decode cL_law 205 = .ok (.iaload, 1) := by decide +kernel
theorem dL_law_206 : decode cL_law 206 = .ok (.aload_n 0, 1) := by decide +kernel
theorem dL_law_207 : decode cL_law 207 = .ok (.iload 4, 2) := by decide +kernel
theorem dL_law_209 : decode cL_law 209 = .ok (.iconst 3, 1) := by decide +kernel
theorem dL_law_210 : decode cL_law 210 = .ok (.iadd, 1) := by decide +kernel
theorem dL_law_211 : decode cL_law 211 = .ok (.iaload, 1) := by decide +kernel
theorem dL_law_212 : decode cL_law 212 = .ok (.invokevirtual 104, 3) := by decide +kernel
theorem dL_law_215 : decode cL_law 215 = .ok (.istore 6, 2) := by decide +kernel
theorem dL_law_217 : decode cL_law 217 = .ok (.aload_n 2, 1) := by decide +kernel
theorem dL_law_218 : decode cL_law 218 = .ok (.invokevirtual 105, 3) := by decide +kernel
theorem dL_law_221 : decode cL_law 221 = .ok (.iload 5, 2) := by decide +kernel
theorem dL_law_223 : decode cL_law 223 = .ok (.if_icmp .eq 5, 3) := by decide +kernel
theorem dL_law_226 : decode cL_law 226 = .ok (.iconst 0, 1) := by decide +kernel
theorem dL_law_227 : decode cL_law 227 = .ok (.ireturn, 1) := by decide +kernel
theorem dL_law_228 : decode cL_law 228 = .ok (.iload 5, 2) := by decide +kernel
theorem dL_law_230 : decode cL_law 230 = .ok (.ifCond .ne 15, 3) := by decide +kernel
theorem dL_law_233 : decode cL_law 233 = .ok (.aload_n 3, 1) := by decide +kernel
theorem dL_law_234 : decode cL_law 234 = .ok (.iconst 0, 1) := by decide +kernel
theorem dL_law_235 : decode cL_law 235 = .ok (.laload, 1) := by decide +kernel
theorem dL_law_236 : decode cL_law 236 = .ok (.iload 6, 2) := by decide +kernel
theorem dL_law_238 : decode cL_law 238 = .ok (.i2l, 1) := by decide +kernel
theorem dL_law_239 : decode cL_law 239 = .ok (.lcmp, 1) := by decide +kernel
theorem dL_law_240 : decode cL_law 240 = .ok (.ifCond .eq 5, 3) := by decide +kernel
theorem dL_law_243 : decode cL_law 243 = .ok (.iconst 0, 1) := by decide +kernel
theorem dL_law_244 : decode cL_law 244 = .ok (.ireturn, 1) := by decide +kernel
theorem dL_law_245 : decode cL_law 245 = .ok (.goto 1515, 3) := by decide +kernel
theorem dL_law_248 : decode cL_law 248 = .ok (.aload_n 1, 1) := by decide +kernel
theorem dL_law_249 : decode cL_law 249 = .ok (.aload_n 0, 1) := by decide +kernel
theorem dL_law_250 : decode cL_law 250 = .ok (.iload 4, 2) := by decide +kernel
theorem dL_law_252 : decode cL_law 252 = .ok (.iconst 1, 1) := by decide +kernel
theorem dL_law_253 : decode cL_law 253 = .ok (.iadd, 1) := by decide +kernel
theorem dL_law_254 : decode cL_law 254 = .ok (.iaload, 1) := by decide +kernel
theorem dL_law_255 : decode cL_law 255 = .ok (.aload_n 0, 1) := by decide +kernel
theorem dL_law_256 : decode cL_law 256 = .ok (.iload 4, 2) := by decide +kernel
theorem dL_law_258 : decode cL_law 258 = .ok (.iconst 2, 1) := by decide +kernel
theorem dL_law_259 : decode cL_law 259 = .ok (.iadd, 1) := by decide +kernel
theorem dL_law_260 : decode cL_law 260 = .ok (.iaload, 1) := by decide +kernel
theorem dL_law_261 : decode cL_law 261 = .ok (.aload_n 3, 1) := by decide +kernel
theorem dL_law_262 : decode cL_law 262 = .ok (.invokestatic 109, 3) := by decide +kernel
theorem dL_law_265 : decode cL_law 265 = .ok (.istore 5, 2) := by decide +kernel
theorem dL_law_267 : decode cL_law 267 = .ok (.aload_n 2, 1) := by decide +kernel
theorem dL_law_268 : decode cL_law 268 = .ok (.aload_n 0, 1) := by decide +kernel
theorem dL_law_269 : decode cL_law 269 = .ok (.iload 4, 2) := by decide +kernel
theorem dL_law_271 : decode cL_law 271 = .ok (.iconst 1, 1) := by decide +kernel
theorem dL_law_272 : decode cL_law 272 = .ok (.iadd, 1) := by decide +kernel
theorem dL_law_273 : decode cL_law 273 = .ok (.iaload, 1) := by decide +kernel
theorem dL_law_274 : decode cL_law 274 = .ok (.aload_n 0, 1) := by decide +kernel
theorem dL_law_275 : decode cL_law 275 = .ok (.iload 4, 2) := by decide +kernel
theorem dL_law_277 : decode cL_law 277 = .ok (.iconst 2, 1) := by decide +kernel
theorem dL_law_278 : decode cL_law 278 = .ok (.iadd, 1) := by decide +kernel
theorem dL_law_279 : decode cL_law 279 = .ok (.iaload, 1) := by decide +kernel
theorem dL_law_280 : decode cL_law 280 = .ok (.invokevirtual 112, 3) := by decide +kernel
theorem dL_law_283 : decode cL_law 283 = .ok (.istore 6, 2) := by decide +kernel
theorem dL_law_285 : decode cL_law 285 = .ok (.aload_n 2, 1) := by decide +kernel
theorem dL_law_286 : decode cL_law 286 = .ok (.invokevirtual 105, 3) := by decide +kernel
theorem dL_law_289 : decode cL_law 289 = .ok (.iload 5, 2) := by decide +kernel
theorem dL_law_291 : decode cL_law 291 = .ok (.if_icmp .eq 5, 3) := by decide +kernel
theorem dL_law_294 : decode cL_law 294 = .ok (.iconst 0, 1) := by decide +kernel
theorem dL_law_295 : decode cL_law 295 = .ok (.ireturn, 1) := by decide +kernel
theorem dL_law_296 : decode cL_law 296 = .ok (.iload 5, 2) := by decide +kernel
theorem dL_law_298 : decode cL_law 298 = .ok (.ifCond .ne 15, 3) := by decide +kernel
theorem dL_law_301 : decode cL_law 301 = .ok (.aload_n 3, 1) := by decide +kernel
theorem dL_law_302 : decode cL_law 302 = .ok (.iconst 0, 1) := by decide +kernel
theorem dL_law_303 : decode cL_law 303 = .ok (.laload, 1) := by decide +kernel
theorem dL_law_304 : decode cL_law 304 = .ok (.iload 6, 2) := by decide +kernel
theorem dL_law_306 : decode cL_law 306 = .ok (.i2l, 1) := by decide +kernel
theorem dL_law_307 : decode cL_law 307 = .ok (.lcmp, 1) := by decide +kernel
theorem dL_law_308 : decode cL_law 308 = .ok (.ifCond .eq 5, 3) := by decide +kernel
theorem dL_law_311 : decode cL_law 311 = .ok (.iconst 0, 1) := by decide +kernel
theorem dL_law_312 : decode cL_law 312 = .ok (.ireturn, 1) := by decide +kernel
theorem dL_law_313 : decode cL_law 313 = .ok (.goto 1447, 3) := by decide +kernel
theorem dL_law_316 : decode cL_law 316 = .ok (.aload_n 1, 1) := by decide +kernel
theorem dL_law_317 : decode cL_law 317 = .ok (.aload_n 0, 1) := by decide +kernel
theorem dL_law_318 : decode cL_law 318 = .ok (.iload 4, 2) := by decide +kernel
theorem dL_law_320 : decode cL_law 320 = .ok (.iconst 1, 1) := by decide +kernel
theorem dL_law_321 : decode cL_law 321 = .ok (.iadd, 1) := by decide +kernel
theorem dL_law_322 : decode cL_law 322 = .ok (.iaload, 1) := by decide +kernel
theorem dL_law_323 : decode cL_law 323 = .ok (.aload_n 0, 1) := by decide +kernel
theorem dL_law_324 : decode cL_law 324 = .ok (.iload 4, 2) := by decide +kernel
theorem dL_law_326 : decode cL_law 326 = .ok (.iconst 2, 1) := by decide +kernel
theorem dL_law_327 : decode cL_law 327 = .ok (.iadd, 1) := by decide +kernel
theorem dL_law_328 : decode cL_law 328 = .ok (.iaload, 1) := by decide +kernel
theorem dL_law_329 : decode cL_law 329 = .ok (.ifCond .eq 7, 3) := by decide +kernel
theorem dL_law_332 : decode cL_law 332 = .ok (.iconst 1, 1) := by decide +kernel
theorem dL_law_333 : decode cL_law 333 = .ok (.goto 4, 3) := by decide +kernel
theorem dL_law_336 : decode cL_law 336 = .ok (.iconst 0, 1) := by decide +kernel
theorem dL_law_337 : decode cL_law 337 = .ok (.aload_n 3, 1) := by decide +kernel
theorem dL_law_338 : decode cL_law 338 = .ok (.invokestatic 113, 3) := by decide +kernel
theorem dL_law_341 : decode cL_law 341 = .ok (.istore 5, 2) := by decide +kernel
theorem dL_law_343 : decode cL_law 343 = .ok (.aload_n 2, 1) := by decide +kernel
theorem dL_law_344 : decode cL_law 344 = .ok (.aload_n 0, 1) := by decide +kernel
theorem dL_law_345 : decode cL_law 345 = .ok (.iload 4, 2) := by decide +kernel
theorem dL_law_347 : decode cL_law 347 = .ok (.iconst 1, 1) := by decide +kernel
theorem dL_law_348 : decode cL_law 348 = .ok (.iadd, 1) := by decide +kernel
theorem dL_law_349 : decode cL_law 349 = .ok (.iaload, 1) := by decide +kernel
theorem dL_law_350 : decode cL_law 350 = .ok (.aload_n 0, 1) := by decide +kernel
theorem dL_law_351 : decode cL_law 351 = .ok (.iload 4, 2) := by decide +kernel
theorem dL_law_353 : decode cL_law 353 = .ok (.iconst 2, 1) := by decide +kernel
theorem dL_law_354 : decode cL_law 354 = .ok (.iadd, 1) := by decide +kernel
theorem dL_law_355 : decode cL_law 355 = .ok (.iaload, 1) := by decide +kernel
theorem dL_law_356 : decode cL_law 356 = .ok (.ifCond .eq 7, 3) := by decide +kernel
theorem dL_law_359 : decode cL_law 359 = .ok (.iconst 1, 1) := by decide +kernel
theorem dL_law_360 : decode cL_law 360 = .ok (.goto 4, 3) := by decide +kernel
theorem dL_law_363 : decode cL_law 363 = .ok (.iconst 0, 1) := by decide +kernel
theorem dL_law_364 : decode cL_law 364 = .ok (.invokevirtual 116, 3) := by decide +kernel
theorem dL_law_367 : decode cL_law 367 = .ok (.istore 6, 2) := by decide +kernel
theorem dL_law_369 : decode cL_law 369 = .ok (.aload_n 2, 1) := by decide +kernel
theorem dL_law_370 : decode cL_law 370 = .ok (.invokevirtual 105, 3) := by decide +kernel
theorem dL_law_373 : decode cL_law 373 = .ok (.iload 5, 2) := by decide +kernel
theorem dL_law_375 : decode cL_law 375 = .ok (.if_icmp .eq 5, 3) := by decide +kernel
theorem dL_law_378 : decode cL_law 378 = .ok (.iconst 0, 1) := by decide +kernel
theorem dL_law_379 : decode cL_law 379 = .ok (.ireturn, 1) := by decide +kernel
theorem dL_law_380 : decode cL_law 380 = .ok (.iload 5, 2) := by decide +kernel
theorem dL_law_382 : decode cL_law 382 = .ok (.ifCond .ne 15, 3) := by decide +kernel
theorem dL_law_385 : decode cL_law 385 = .ok (.aload_n 3, 1) := by decide +kernel
theorem dL_law_386 : decode cL_law 386 = .ok (.iconst 0, 1) := by decide +kernel
theorem dL_law_387 : decode cL_law 387 = .ok (.laload, 1) := by decide +kernel
theorem dL_law_388 : decode cL_law 388 = .ok (.iload 6, 2) := by decide +kernel
theorem dL_law_390 : decode cL_law 390 = .ok (.i2l, 1) := by decide +kernel
theorem dL_law_391 : decode cL_law 391 = .ok (.lcmp, 1) := by decide +kernel
theorem dL_law_392 : decode cL_law 392 = .ok (.ifCond .eq 5, 3) := by decide +kernel
theorem dL_law_395 : decode cL_law 395 = .ok (.iconst 0, 1) := by decide +kernel
theorem dL_law_396 : decode cL_law 396 = .ok (.ireturn, 1) := by decide +kernel
theorem dL_law_397 : decode cL_law 397 = .ok (.goto 1363, 3) := by decide +kernel
theorem dL_law_400 : decode cL_law 400 = .ok (.aload_n 1, 1) := by decide +kernel
theorem dL_law_401 : decode cL_law 401 = .ok (.aload_n 0, 1) := by decide +kernel
theorem dL_law_402 : decode cL_law 402 = .ok (.iload 4, 2) := by decide +kernel
theorem dL_law_404 : decode cL_law 404 = .ok (.iconst 1, 1) := by decide +kernel
theorem dL_law_405 : decode cL_law 405 = .ok (.iadd, 1) := by decide +kernel
theorem dL_law_406 : decode cL_law 406 = .ok (.iaload, 1) := by decide +kernel
theorem dL_law_407 : decode cL_law 407 = .ok (.aload_n 0, 1) := by decide +kernel
theorem dL_law_408 : decode cL_law 408 = .ok (.iload 4, 2) := by decide +kernel
theorem dL_law_410 : decode cL_law 410 = .ok (.iconst 2, 1) := by decide +kernel
theorem dL_law_411 : decode cL_law 411 = .ok (.iadd, 1) := by decide +kernel
theorem dL_law_412 : decode cL_law 412 = .ok (.iaload, 1) := by decide +kernel
theorem dL_law_413 : decode cL_law 413 = .ok (.aload_n 3, 1) := by decide +kernel
theorem dL_law_414 : decode cL_law 414 = .ok (.invokestatic 117, 3) := by decide +kernel
theorem dL_law_417 : decode cL_law 417 = .ok (.istore 5, 2) := by decide +kernel
theorem dL_law_419 : decode cL_law 419 = .ok (.aload_n 2, 1) := by decide +kernel
theorem dL_law_420 : decode cL_law 420 = .ok (.aload_n 0, 1) := by decide +kernel
theorem dL_law_421 : decode cL_law 421 = .ok (.iload 4, 2) := by decide +kernel
theorem dL_law_423 : decode cL_law 423 = .ok (.iconst 1, 1) := by decide +kernel
theorem dL_law_424 : decode cL_law 424 = .ok (.iadd, 1) := by decide +kernel
theorem dL_law_425 : decode cL_law 425 = .ok (.iaload, 1) := by decide +kernel
theorem dL_law_426 : decode cL_law 426 = .ok (.aload_n 0, 1) := by decide +kernel
theorem dL_law_427 : decode cL_law 427 = .ok (.iload 4, 2) := by decide +kernel
theorem dL_law_429 : decode cL_law 429 = .ok (.iconst 2, 1) := by decide +kernel
theorem dL_law_430 : decode cL_law 430 = .ok (.iadd, 1) := by decide +kernel
theorem dL_law_431 : decode cL_law 431 = .ok (.iaload, 1) := by decide +kernel
theorem dL_law_432 : decode cL_law 432 = .ok (.invokevirtual 119, 3) := by decide +kernel
theorem dL_law_435 : decode cL_law 435 = .ok (.istore 6, 2) := by decide +kernel
theorem dL_law_437 : decode cL_law 437 = .ok (.aload_n 2, 1) := by decide +kernel
theorem dL_law_438 : decode cL_law 438 = .ok (.invokevirtual 105, 3) := by decide +kernel
theorem dL_law_441 : decode cL_law 441 = .ok (.iload 5, 2) := by decide +kernel
theorem dL_law_443 : decode cL_law 443 = .ok (.if_icmp .eq 5, 3) := by decide +kernel
theorem dL_law_446 : decode cL_law 446 = .ok (.iconst 0, 1) := by decide +kernel
theorem dL_law_447 : decode cL_law 447 = .ok (.ireturn, 1) := by decide +kernel
theorem dL_law_448 : decode cL_law 448 = .ok (.iload 5, 2) := by decide +kernel
theorem dL_law_450 : decode cL_law 450 = .ok (.ifCond .ne 15, 3) := by decide +kernel
theorem dL_law_453 : decode cL_law 453 = .ok (.aload_n 3, 1) := by decide +kernel
theorem dL_law_454 : decode cL_law 454 = .ok (.iconst 0, 1) := by decide +kernel
theorem dL_law_455 : decode cL_law 455 = .ok (.laload, 1) := by decide +kernel
theorem dL_law_456 : decode cL_law 456 = .ok (.iload 6, 2) := by decide +kernel
theorem dL_law_458 : decode cL_law 458 = .ok (.i2l, 1) := by decide +kernel
theorem dL_law_459 : decode cL_law 459 = .ok (.lcmp, 1) := by decide +kernel
theorem dL_law_460 : decode cL_law 460 = .ok (.ifCond .eq 5, 3) := by decide +kernel
theorem dL_law_463 : decode cL_law 463 = .ok (.iconst 0, 1) := by decide +kernel
theorem dL_law_464 : decode cL_law 464 = .ok (.ireturn, 1) := by decide +kernel
theorem dL_law_465 : decode cL_law 465 = .ok (.goto 1295, 3) := by decide +kernel
theorem dL_law_468 : decode cL_law 468 = .ok (.aload_n 1, 1) := by decide +kernel
theorem dL_law_469 : decode cL_law 469 = .ok (.aload_n 0, 1) := by decide +kernel
theorem dL_law_470 : decode cL_law 470 = .ok (.iload 4, 2) := by decide +kernel
theorem dL_law_472 : decode cL_law 472 = .ok (.iconst 1, 1) := by decide +kernel
theorem dL_law_473 : decode cL_law 473 = .ok (.iadd, 1) := by decide +kernel
theorem dL_law_474 : decode cL_law 474 = .ok (.iaload, 1) := by decide +kernel
theorem dL_law_475 : decode cL_law 475 = .ok (.aload_n 3, 1) := by decide +kernel
theorem dL_law_476 : decode cL_law 476 = .ok (.invokestatic 120, 3) := by decide +kernel
theorem dL_law_479 : decode cL_law 479 = .ok (.istore 5, 2) := by decide +kernel
theorem dL_law_481 : decode cL_law 481 = .ok (.aload_n 2, 1) := by decide +kernel
theorem dL_law_482 : decode cL_law 482 = .ok (.aload_n 0, 1) := by decide +kernel
theorem dL_law_483 : decode cL_law 483 = .ok (.iload 4, 2) := by decide +kernel
theorem dL_law_485 : decode cL_law 485 = .ok (.iconst 1, 1) := by decide +kernel
theorem dL_law_486 : decode cL_law 486 = .ok (.iadd, 1) := by decide +kernel
theorem dL_law_487 : decode cL_law 487 = .ok (.iaload, 1) := by decide +kernel
theorem dL_law_488 : decode cL_law 488 = .ok (.invokevirtual 123, 3) := by decide +kernel
theorem dL_law_491 : decode cL_law 491 = .ok (.istore 6, 2) := by decide +kernel
theorem dL_law_493 : decode cL_law 493 = .ok (.aload_n 2, 1) := by decide +kernel
theorem dL_law_494 : decode cL_law 494 = .ok (.invokevirtual 105, 3) := by decide +kernel
theorem dL_law_497 : decode cL_law 497 = .ok (.iload 5, 2) := by decide +kernel
theorem dL_law_499 : decode cL_law 499 = .ok (.if_icmp .eq 5, 3) := by decide +kernel
theorem dL_law_502 : decode cL_law 502 = .ok (.iconst 0, 1) := by decide +kernel
theorem dL_law_503 : decode cL_law 503 = .ok (.ireturn, 1) := by decide +kernel
theorem dL_law_504 : decode cL_law 504 = .ok (.iload 5, 2) := by decide +kernel
theorem dL_law_506 : decode cL_law 506 = .ok (.ifCond .ne 15, 3) := by decide +kernel
theorem dL_law_509 : decode cL_law 509 = .ok (.aload_n 3, 1) := by decide +kernel
theorem dL_law_510 : decode cL_law 510 = .ok (.iconst 0, 1) := by decide +kernel
theorem dL_law_511 : decode cL_law 511 = .ok (.laload, 1) := by decide +kernel
theorem dL_law_512 : decode cL_law 512 = .ok (.iload 6, 2) := by decide +kernel
theorem dL_law_514 : decode cL_law 514 = .ok (.i2l, 1) := by decide +kernel
theorem dL_law_515 : decode cL_law 515 = .ok (.lcmp, 1) := by decide +kernel
theorem dL_law_516 : decode cL_law 516 = .ok (.ifCond .eq 5, 3) := by decide +kernel
theorem dL_law_519 : decode cL_law 519 = .ok (.iconst 0, 1) := by decide +kernel
theorem dL_law_520 : decode cL_law 520 = .ok (.ireturn, 1) := by decide +kernel
theorem dL_law_521 : decode cL_law 521 = .ok (.goto 1239, 3) := by decide +kernel
theorem dL_law_524 : decode cL_law 524 = .ok (.aload_n 1, 1) := by decide +kernel
theorem dL_law_525 : decode cL_law 525 = .ok (.aload_n 0, 1) := by decide +kernel
theorem dL_law_526 : decode cL_law 526 = .ok (.iload 4, 2) := by decide +kernel
theorem dL_law_528 : decode cL_law 528 = .ok (.iconst 1, 1) := by decide +kernel
theorem dL_law_529 : decode cL_law 529 = .ok (.iadd, 1) := by decide +kernel
theorem dL_law_530 : decode cL_law 530 = .ok (.iaload, 1) := by decide +kernel
theorem dL_law_531 : decode cL_law 531 = .ok (.aload_n 3, 1) := by decide +kernel
theorem dL_law_532 : decode cL_law 532 = .ok (.invokestatic 124, 3) := by decide +kernel
theorem dL_law_535 : decode cL_law 535 = .ok (.istore 5, 2) := by decide +kernel
theorem dL_law_537 : decode cL_law 537 = .ok (.aload_n 2, 1) := by decide +kernel
theorem dL_law_538 : decode cL_law 538 = .ok (.aload_n 0, 1) := by decide +kernel
theorem dL_law_539 : decode cL_law 539 = .ok (.iload 4, 2) := by decide +kernel
theorem dL_law_541 : decode cL_law 541 = .ok (.iconst 1, 1) := by decide +kernel
theorem dL_law_542 : decode cL_law 542 = .ok (.iadd, 1) := by decide +kernel
theorem dL_law_543 : decode cL_law 543 = .ok (.iaload, 1) := by decide +kernel
theorem dL_law_544 : decode cL_law 544 = .ok (.invokevirtual 126, 3) := by decide +kernel
theorem dL_law_547 : decode cL_law 547 = .ok (.istore 6, 2) := by decide +kernel
theorem dL_law_549 : decode cL_law 549 = .ok (.aload_n 2, 1) := by decide +kernel
theorem dL_law_550 : decode cL_law 550 = .ok (.invokevirtual 105, 3) := by decide +kernel
theorem dL_law_553 : decode cL_law 553 = .ok (.iload 5, 2) := by decide +kernel
theorem dL_law_555 : decode cL_law 555 = .ok (.if_icmp .eq 5, 3) := by decide +kernel
theorem dL_law_558 : decode cL_law 558 = .ok (.iconst 0, 1) := by decide +kernel
theorem dL_law_559 : decode cL_law 559 = .ok (.ireturn, 1) := by decide +kernel
theorem dL_law_560 : decode cL_law 560 = .ok (.iload 5, 2) := by decide +kernel
theorem dL_law_562 : decode cL_law 562 = .ok (.ifCond .ne 15, 3) := by decide +kernel
theorem dL_law_565 : decode cL_law 565 = .ok (.aload_n 3, 1) := by decide +kernel
theorem dL_law_566 : decode cL_law 566 = .ok (.iconst 0, 1) := by decide +kernel
theorem dL_law_567 : decode cL_law 567 = .ok (.laload, 1) := by decide +kernel
theorem dL_law_568 : decode cL_law 568 = .ok (.iload 6, 2) := by decide +kernel
theorem dL_law_570 : decode cL_law 570 = .ok (.i2l, 1) := by decide +kernel
theorem dL_law_571 : decode cL_law 571 = .ok (.lcmp, 1) := by decide +kernel
theorem dL_law_572 : decode cL_law 572 = .ok (.ifCond .eq 5, 3) := by decide +kernel
theorem dL_law_575 : decode cL_law 575 = .ok (.iconst 0, 1) := by decide +kernel
theorem dL_law_576 : decode cL_law 576 = .ok (.ireturn, 1) := by decide +kernel
theorem dL_law_577 : decode cL_law 577 = .ok (.goto 1183, 3) := by decide +kernel
theorem dL_law_580 : decode cL_law 580 = .ok (.aload_n 1, 1) := by decide +kernel
theorem dL_law_581 : decode cL_law 581 = .ok (.aload_n 0, 1) := by decide +kernel
theorem dL_law_582 : decode cL_law 582 = .ok (.iload 4, 2) := by decide +kernel
theorem dL_law_584 : decode cL_law 584 = .ok (.iconst 1, 1) := by decide +kernel
theorem dL_law_585 : decode cL_law 585 = .ok (.iadd, 1) := by decide +kernel
theorem dL_law_586 : decode cL_law 586 = .ok (.iaload, 1) := by decide +kernel
theorem dL_law_587 : decode cL_law 587 = .ok (.aload_n 0, 1) := by decide +kernel
theorem dL_law_588 : decode cL_law 588 = .ok (.iload 4, 2) := by decide +kernel
theorem dL_law_590 : decode cL_law 590 = .ok (.iconst 2, 1) := by decide +kernel
theorem dL_law_591 : decode cL_law 591 = .ok (.iadd, 1) := by decide +kernel
theorem dL_law_592 : decode cL_law 592 = .ok (.iaload, 1) := by decide +kernel
theorem dL_law_593 : decode cL_law 593 = .ok (.aload_n 3, 1) := by decide +kernel
theorem dL_law_594 : decode cL_law 594 = .ok (.invokestatic 127, 3) := by decide +kernel
theorem dL_law_597 : decode cL_law 597 = .ok (.istore 5, 2) := by decide +kernel
theorem dL_law_599 : decode cL_law 599 = .ok (.aload_n 2, 1) := by decide +kernel
theorem dL_law_600 : decode cL_law 600 = .ok (.aload_n 0, 1) := by decide +kernel
theorem dL_law_601 : decode cL_law 601 = .ok (.iload 4, 2) := by decide +kernel
theorem dL_law_603 : decode cL_law 603 = .ok (.iconst 1, 1) := by decide +kernel
theorem dL_law_604 : decode cL_law 604 = .ok (.iadd, 1) := by decide +kernel
theorem dL_law_605 : decode cL_law 605 = .ok (.iaload, 1) := by decide +kernel
theorem dL_law_606 : decode cL_law 606 = .ok (.aload_n 0, 1) := by decide +kernel
theorem dL_law_607 : decode cL_law 607 = .ok (.iload 4, 2) := by decide +kernel
theorem dL_law_609 : decode cL_law 609 = .ok (.iconst 2, 1) := by decide +kernel
theorem dL_law_610 : decode cL_law 610 = .ok (.iadd, 1) := by decide +kernel
theorem dL_law_611 : decode cL_law 611 = .ok (.iaload, 1) := by decide +kernel
theorem dL_law_612 : decode cL_law 612 = .ok (.invokevirtual 129, 3) := by decide +kernel
theorem dL_law_615 : decode cL_law 615 = .ok (.istore 6, 2) := by decide +kernel
theorem dL_law_617 : decode cL_law 617 = .ok (.aload_n 2, 1) := by decide +kernel
theorem dL_law_618 : decode cL_law 618 = .ok (.invokevirtual 105, 3) := by decide +kernel
theorem dL_law_621 : decode cL_law 621 = .ok (.iload 5, 2) := by decide +kernel
theorem dL_law_623 : decode cL_law 623 = .ok (.if_icmp .eq 5, 3) := by decide +kernel
theorem dL_law_626 : decode cL_law 626 = .ok (.iconst 0, 1) := by decide +kernel
theorem dL_law_627 : decode cL_law 627 = .ok (.ireturn, 1) := by decide +kernel
theorem dL_law_628 : decode cL_law 628 = .ok (.iload 5, 2) := by decide +kernel
theorem dL_law_630 : decode cL_law 630 = .ok (.ifCond .ne 15, 3) := by decide +kernel
theorem dL_law_633 : decode cL_law 633 = .ok (.aload_n 3, 1) := by decide +kernel
theorem dL_law_634 : decode cL_law 634 = .ok (.iconst 0, 1) := by decide +kernel
theorem dL_law_635 : decode cL_law 635 = .ok (.laload, 1) := by decide +kernel
theorem dL_law_636 : decode cL_law 636 = .ok (.iload 6, 2) := by decide +kernel
theorem dL_law_638 : decode cL_law 638 = .ok (.i2l, 1) := by decide +kernel
theorem dL_law_639 : decode cL_law 639 = .ok (.lcmp, 1) := by decide +kernel
theorem dL_law_640 : decode cL_law 640 = .ok (.ifCond .eq 5, 3) := by decide +kernel
theorem dL_law_643 : decode cL_law 643 = .ok (.iconst 0, 1) := by decide +kernel
theorem dL_law_644 : decode cL_law 644 = .ok (.ireturn, 1) := by decide +kernel
theorem dL_law_645 : decode cL_law 645 = .ok (.goto 1115, 3) := by decide +kernel
theorem dL_law_648 : decode cL_law 648 = .ok (.aload_n 1, 1) := by decide +kernel
theorem dL_law_649 : decode cL_law 649 = .ok (.aload_n 0, 1) := by decide +kernel
theorem dL_law_650 : decode cL_law 650 = .ok (.iload 4, 2) := by decide +kernel
theorem dL_law_652 : decode cL_law 652 = .ok (.iconst 1, 1) := by decide +kernel
theorem dL_law_653 : decode cL_law 653 = .ok (.iadd, 1) := by decide +kernel
theorem dL_law_654 : decode cL_law 654 = .ok (.iaload, 1) := by decide +kernel
theorem dL_law_655 : decode cL_law 655 = .ok (.aload_n 0, 1) := by decide +kernel
theorem dL_law_656 : decode cL_law 656 = .ok (.iload 4, 2) := by decide +kernel
theorem dL_law_658 : decode cL_law 658 = .ok (.iconst 2, 1) := by decide +kernel
theorem dL_law_659 : decode cL_law 659 = .ok (.iadd, 1) := by decide +kernel
theorem dL_law_660 : decode cL_law 660 = .ok (.iaload, 1) := by decide +kernel
theorem dL_law_661 : decode cL_law 661 = .ok (.aload_n 3, 1) := by decide +kernel
theorem dL_law_662 : decode cL_law 662 = .ok (.invokestatic 130, 3) := by decide +kernel
theorem dL_law_665 : decode cL_law 665 = .ok (.istore 5, 2) := by decide +kernel
theorem dL_law_667 : decode cL_law 667 = .ok (.aload_n 2, 1) := by decide +kernel
theorem dL_law_668 : decode cL_law 668 = .ok (.aload_n 0, 1) := by decide +kernel
theorem dL_law_669 : decode cL_law 669 = .ok (.iload 4, 2) := by decide +kernel
theorem dL_law_671 : decode cL_law 671 = .ok (.iconst 1, 1) := by decide +kernel
theorem dL_law_672 : decode cL_law 672 = .ok (.iadd, 1) := by decide +kernel
theorem dL_law_673 : decode cL_law 673 = .ok (.iaload, 1) := by decide +kernel
theorem dL_law_674 : decode cL_law 674 = .ok (.aload_n 0, 1) := by decide +kernel
theorem dL_law_675 : decode cL_law 675 = .ok (.iload 4, 2) := by decide +kernel
theorem dL_law_677 : decode cL_law 677 = .ok (.iconst 2, 1) := by decide +kernel
theorem dL_law_678 : decode cL_law 678 = .ok (.iadd, 1) := by decide +kernel
theorem dL_law_679 : decode cL_law 679 = .ok (.iaload, 1) := by decide +kernel
theorem dL_law_680 : decode cL_law 680 = .ok (.invokevirtual 132, 3) := by decide +kernel
theorem dL_law_683 : decode cL_law 683 = .ok (.istore 6, 2) := by decide +kernel
theorem dL_law_685 : decode cL_law 685 = .ok (.aload_n 2, 1) := by decide +kernel
theorem dL_law_686 : decode cL_law 686 = .ok (.invokevirtual 105, 3) := by decide +kernel
theorem dL_law_689 : decode cL_law 689 = .ok (.iload 5, 2) := by decide +kernel
theorem dL_law_691 : decode cL_law 691 = .ok (.if_icmp .eq 5, 3) := by decide +kernel
theorem dL_law_694 : decode cL_law 694 = .ok (.iconst 0, 1) := by decide +kernel
theorem dL_law_695 : decode cL_law 695 = .ok (.ireturn, 1) := by decide +kernel
theorem dL_law_696 : decode cL_law 696 = .ok (.iload 5, 2) := by decide +kernel
theorem dL_law_698 : decode cL_law 698 = .ok (.ifCond .ne 15, 3) := by decide +kernel
theorem dL_law_701 : decode cL_law 701 = .ok (.aload_n 3, 1) := by decide +kernel
theorem dL_law_702 : decode cL_law 702 = .ok (.iconst 0, 1) := by decide +kernel
theorem dL_law_703 : decode cL_law 703 = .ok (.laload, 1) := by decide +kernel
theorem dL_law_704 : decode cL_law 704 = .ok (.iload 6, 2) := by decide +kernel
theorem dL_law_706 : decode cL_law 706 = .ok (.i2l, 1) := by decide +kernel
theorem dL_law_707 : decode cL_law 707 = .ok (.lcmp, 1) := by decide +kernel
theorem dL_law_708 : decode cL_law 708 = .ok (.ifCond .eq 5, 3) := by decide +kernel
theorem dL_law_711 : decode cL_law 711 = .ok (.iconst 0, 1) := by decide +kernel
theorem dL_law_712 : decode cL_law 712 = .ok (.ireturn, 1) := by decide +kernel
theorem dL_law_713 : decode cL_law 713 = .ok (.goto 1047, 3) := by decide +kernel
theorem dL_law_716 : decode cL_law 716 = .ok (.aload_n 1, 1) := by decide +kernel
theorem dL_law_717 : decode cL_law 717 = .ok (.aload_n 0, 1) := by decide +kernel
theorem dL_law_718 : decode cL_law 718 = .ok (.iload 4, 2) := by decide +kernel
theorem dL_law_720 : decode cL_law 720 = .ok (.iconst 1, 1) := by decide +kernel
theorem dL_law_721 : decode cL_law 721 = .ok (.iadd, 1) := by decide +kernel
theorem dL_law_722 : decode cL_law 722 = .ok (.iaload, 1) := by decide +kernel
theorem dL_law_723 : decode cL_law 723 = .ok (.aload_n 0, 1) := by decide +kernel
theorem dL_law_724 : decode cL_law 724 = .ok (.iload 4, 2) := by decide +kernel
theorem dL_law_726 : decode cL_law 726 = .ok (.iconst 2, 1) := by decide +kernel
theorem dL_law_727 : decode cL_law 727 = .ok (.iadd, 1) := by decide +kernel
theorem dL_law_728 : decode cL_law 728 = .ok (.iaload, 1) := by decide +kernel
theorem dL_law_729 : decode cL_law 729 = .ok (.aload_n 0, 1) := by decide +kernel
theorem dL_law_730 : decode cL_law 730 = .ok (.iload 4, 2) := by decide +kernel
theorem dL_law_732 : decode cL_law 732 = .ok (.iconst 3, 1) := by decide +kernel
theorem dL_law_733 : decode cL_law 733 = .ok (.iadd, 1) := by decide +kernel
theorem dL_law_734 : decode cL_law 734 = .ok (.iaload, 1) := by decide +kernel
theorem dL_law_735 : decode cL_law 735 = .ok (.aload_n 3, 1) := by decide +kernel
theorem dL_law_736 : decode cL_law 736 = .ok (.invokestatic 133, 3) := by decide +kernel
theorem dL_law_739 : decode cL_law 739 = .ok (.istore 5, 2) := by decide +kernel
theorem dL_law_741 : decode cL_law 741 = .ok (.aload_n 2, 1) := by decide +kernel
theorem dL_law_742 : decode cL_law 742 = .ok (.aload_n 0, 1) := by decide +kernel
theorem dL_law_743 : decode cL_law 743 = .ok (.iload 4, 2) := by decide +kernel
theorem dL_law_745 : decode cL_law 745 = .ok (.iconst 1, 1) := by decide +kernel
theorem dL_law_746 : decode cL_law 746 = .ok (.iadd, 1) := by decide +kernel
theorem dL_law_747 : decode cL_law 747 = .ok (.iaload, 1) := by decide +kernel
theorem dL_law_748 : decode cL_law 748 = .ok (.aload_n 0, 1) := by decide +kernel
theorem dL_law_749 : decode cL_law 749 = .ok (.iload 4, 2) := by decide +kernel
theorem dL_law_751 : decode cL_law 751 = .ok (.iconst 2, 1) := by decide +kernel
theorem dL_law_752 : decode cL_law 752 = .ok (.iadd, 1) := by decide +kernel
theorem dL_law_753 : decode cL_law 753 = .ok (.iaload, 1) := by decide +kernel
theorem dL_law_754 : decode cL_law 754 = .ok (.aload_n 0, 1) := by decide +kernel
theorem dL_law_755 : decode cL_law 755 = .ok (.iload 4, 2) := by decide +kernel
theorem dL_law_757 : decode cL_law 757 = .ok (.iconst 3, 1) := by decide +kernel
theorem dL_law_758 : decode cL_law 758 = .ok (.iadd, 1) := by decide +kernel
theorem dL_law_759 : decode cL_law 759 = .ok (.iaload, 1) := by decide +kernel
theorem dL_law_760 : decode cL_law 760 = .ok (.invokevirtual 135, 3) := by decide +kernel
theorem dL_law_763 : decode cL_law 763 = .ok (.istore 6, 2) := by decide +kernel
theorem dL_law_765 : decode cL_law 765 = .ok (.aload_n 2, 1) := by decide +kernel
theorem dL_law_766 : decode cL_law 766 = .ok (.invokevirtual 105, 3) := by decide +kernel
theorem dL_law_769 : decode cL_law 769 = .ok (.iload 5, 2) := by decide +kernel
theorem dL_law_771 : decode cL_law 771 = .ok (.if_icmp .eq 5, 3) := by decide +kernel
theorem dL_law_774 : decode cL_law 774 = .ok (.iconst 0, 1) := by decide +kernel
theorem dL_law_775 : decode cL_law 775 = .ok (.ireturn, 1) := by decide +kernel
theorem dL_law_776 : decode cL_law 776 = .ok (.iload 5, 2) := by decide +kernel
theorem dL_law_778 : decode cL_law 778 = .ok (.ifCond .ne 15, 3) := by decide +kernel
theorem dL_law_781 : decode cL_law 781 = .ok (.aload_n 3, 1) := by decide +kernel
theorem dL_law_782 : decode cL_law 782 = .ok (.iconst 0, 1) := by decide +kernel
theorem dL_law_783 : decode cL_law 783 = .ok (.laload, 1) := by decide +kernel
theorem dL_law_784 : decode cL_law 784 = .ok (.iload 6, 2) := by decide +kernel
theorem dL_law_786 : decode cL_law 786 = .ok (.i2l, 1) := by decide +kernel
theorem dL_law_787 : decode cL_law 787 = .ok (.lcmp, 1) := by decide +kernel
theorem dL_law_788 : decode cL_law 788 = .ok (.ifCond .eq 5, 3) := by decide +kernel
theorem dL_law_791 : decode cL_law 791 = .ok (.iconst 0, 1) := by decide +kernel
theorem dL_law_792 : decode cL_law 792 = .ok (.ireturn, 1) := by decide +kernel
theorem dL_law_793 : decode cL_law 793 = .ok (.goto 967, 3) := by decide +kernel
theorem dL_law_796 : decode cL_law 796 = .ok (.aload_n 1, 1) := by decide +kernel
theorem dL_law_797 : decode cL_law 797 = .ok (.aload_n 0, 1) := by decide +kernel
theorem dL_law_798 : decode cL_law 798 = .ok (.iload 4, 2) := by decide +kernel
theorem dL_law_800 : decode cL_law 800 = .ok (.iconst 1, 1) := by decide +kernel
theorem dL_law_801 : decode cL_law 801 = .ok (.iadd, 1) := by decide +kernel
theorem dL_law_802 : decode cL_law 802 = .ok (.iaload, 1) := by decide +kernel
theorem dL_law_803 : decode cL_law 803 = .ok (.aload_n 0, 1) := by decide +kernel
theorem dL_law_804 : decode cL_law 804 = .ok (.iload 4, 2) := by decide +kernel
theorem dL_law_806 : decode cL_law 806 = .ok (.iconst 2, 1) := by decide +kernel
theorem dL_law_807 : decode cL_law 807 = .ok (.iadd, 1) := by decide +kernel
theorem dL_law_808 : decode cL_law 808 = .ok (.iaload, 1) := by decide +kernel
theorem dL_law_809 : decode cL_law 809 = .ok (.aload_n 3, 1) := by decide +kernel
theorem dL_law_810 : decode cL_law 810 = .ok (.invokestatic 136, 3) := by decide +kernel
theorem dL_law_813 : decode cL_law 813 = .ok (.istore 5, 2) := by decide +kernel
theorem dL_law_815 : decode cL_law 815 = .ok (.aload_n 2, 1) := by decide +kernel
theorem dL_law_816 : decode cL_law 816 = .ok (.aload_n 0, 1) := by decide +kernel
theorem dL_law_817 : decode cL_law 817 = .ok (.iload 4, 2) := by decide +kernel
theorem dL_law_819 : decode cL_law 819 = .ok (.iconst 1, 1) := by decide +kernel
theorem dL_law_820 : decode cL_law 820 = .ok (.iadd, 1) := by decide +kernel
theorem dL_law_821 : decode cL_law 821 = .ok (.iaload, 1) := by decide +kernel
theorem dL_law_822 : decode cL_law 822 = .ok (.aload_n 0, 1) := by decide +kernel
theorem dL_law_823 : decode cL_law 823 = .ok (.iload 4, 2) := by decide +kernel
theorem dL_law_825 : decode cL_law 825 = .ok (.iconst 2, 1) := by decide +kernel
theorem dL_law_826 : decode cL_law 826 = .ok (.iadd, 1) := by decide +kernel
theorem dL_law_827 : decode cL_law 827 = .ok (.iaload, 1) := by decide +kernel
theorem dL_law_828 : decode cL_law 828 = .ok (.invokevirtual 138, 3) := by decide +kernel
theorem dL_law_831 : decode cL_law 831 = .ok (.istore 6, 2) := by decide +kernel
theorem dL_law_833 : decode cL_law 833 = .ok (.aload_n 2, 1) := by decide +kernel
theorem dL_law_834 : decode cL_law 834 = .ok (.invokevirtual 105, 3) := by decide +kernel
theorem dL_law_837 : decode cL_law 837 = .ok (.iload 5, 2) := by decide +kernel
theorem dL_law_839 : decode cL_law 839 = .ok (.if_icmp .eq 5, 3) := by decide +kernel
theorem dL_law_842 : decode cL_law 842 = .ok (.iconst 0, 1) := by decide +kernel
theorem dL_law_843 : decode cL_law 843 = .ok (.ireturn, 1) := by decide +kernel
theorem dL_law_844 : decode cL_law 844 = .ok (.iload 5, 2) := by decide +kernel
theorem dL_law_846 : decode cL_law 846 = .ok (.ifCond .ne 15, 3) := by decide +kernel
theorem dL_law_849 : decode cL_law 849 = .ok (.aload_n 3, 1) := by decide +kernel
theorem dL_law_850 : decode cL_law 850 = .ok (.iconst 0, 1) := by decide +kernel
theorem dL_law_851 : decode cL_law 851 = .ok (.laload, 1) := by decide +kernel
theorem dL_law_852 : decode cL_law 852 = .ok (.iload 6, 2) := by decide +kernel
theorem dL_law_854 : decode cL_law 854 = .ok (.i2l, 1) := by decide +kernel
theorem dL_law_855 : decode cL_law 855 = .ok (.lcmp, 1) := by decide +kernel
theorem dL_law_856 : decode cL_law 856 = .ok (.ifCond .eq 5, 3) := by decide +kernel
theorem dL_law_859 : decode cL_law 859 = .ok (.iconst 0, 1) := by decide +kernel
theorem dL_law_860 : decode cL_law 860 = .ok (.ireturn, 1) := by decide +kernel
theorem dL_law_861 : decode cL_law 861 = .ok (.goto 899, 3) := by decide +kernel
theorem dL_law_864 : decode cL_law 864 = .ok (.aload_n 1, 1) := by decide +kernel
theorem dL_law_865 : decode cL_law 865 = .ok (.aload_n 0, 1) := by decide +kernel
theorem dL_law_866 : decode cL_law 866 = .ok (.iload 4, 2) := by decide +kernel
theorem dL_law_868 : decode cL_law 868 = .ok (.iconst 1, 1) := by decide +kernel
theorem dL_law_869 : decode cL_law 869 = .ok (.iadd, 1) := by decide +kernel
theorem dL_law_870 : decode cL_law 870 = .ok (.iaload, 1) := by decide +kernel
theorem dL_law_871 : decode cL_law 871 = .ok (.aload_n 0, 1) := by decide +kernel
theorem dL_law_872 : decode cL_law 872 = .ok (.iload 4, 2) := by decide +kernel
theorem dL_law_874 : decode cL_law 874 = .ok (.iconst 2, 1) := by decide +kernel
theorem dL_law_875 : decode cL_law 875 = .ok (.iadd, 1) := by decide +kernel
theorem dL_law_876 : decode cL_law 876 = .ok (.iaload, 1) := by decide +kernel
theorem dL_law_877 : decode cL_law 877 = .ok (.aload_n 0, 1) := by decide +kernel
theorem dL_law_878 : decode cL_law 878 = .ok (.iload 4, 2) := by decide +kernel
theorem dL_law_880 : decode cL_law 880 = .ok (.iconst 3, 1) := by decide +kernel
theorem dL_law_881 : decode cL_law 881 = .ok (.iadd, 1) := by decide +kernel
theorem dL_law_882 : decode cL_law 882 = .ok (.iaload, 1) := by decide +kernel
theorem dL_law_883 : decode cL_law 883 = .ok (.ifCond .eq 7, 3) := by decide +kernel
theorem dL_law_886 : decode cL_law 886 = .ok (.iconst 1, 1) := by decide +kernel
theorem dL_law_887 : decode cL_law 887 = .ok (.goto 4, 3) := by decide +kernel
theorem dL_law_890 : decode cL_law 890 = .ok (.iconst 0, 1) := by decide +kernel
theorem dL_law_891 : decode cL_law 891 = .ok (.aload_n 3, 1) := by decide +kernel
theorem dL_law_892 : decode cL_law 892 = .ok (.invokestatic 139, 3) := by decide +kernel
theorem dL_law_895 : decode cL_law 895 = .ok (.istore 5, 2) := by decide +kernel
theorem dL_law_897 : decode cL_law 897 = .ok (.aload_n 2, 1) := by decide +kernel
theorem dL_law_898 : decode cL_law 898 = .ok (.aload_n 0, 1) := by decide +kernel
theorem dL_law_899 : decode cL_law 899 = .ok (.iload 4, 2) := by decide +kernel
theorem dL_law_901 : decode cL_law 901 = .ok (.iconst 1, 1) := by decide +kernel
theorem dL_law_902 : decode cL_law 902 = .ok (.iadd, 1) := by decide +kernel
theorem dL_law_903 : decode cL_law 903 = .ok (.iaload, 1) := by decide +kernel
theorem dL_law_904 : decode cL_law 904 = .ok (.aload_n 0, 1) := by decide +kernel
theorem dL_law_905 : decode cL_law 905 = .ok (.iload 4, 2) := by decide +kernel
theorem dL_law_907 : decode cL_law 907 = .ok (.iconst 2, 1) := by decide +kernel
theorem dL_law_908 : decode cL_law 908 = .ok (.iadd, 1) := by decide +kernel
theorem dL_law_909 : decode cL_law 909 = .ok (.iaload, 1) := by decide +kernel
theorem dL_law_910 : decode cL_law 910 = .ok (.aload_n 0, 1) := by decide +kernel
theorem dL_law_911 : decode cL_law 911 = .ok (.iload 4, 2) := by decide +kernel
theorem dL_law_913 : decode cL_law 913 = .ok (.iconst 3, 1) := by decide +kernel
theorem dL_law_914 : decode cL_law 914 = .ok (.iadd, 1) := by decide +kernel
theorem dL_law_915 : decode cL_law 915 = .ok (.iaload, 1) := by decide +kernel
theorem dL_law_916 : decode cL_law 916 = .ok (.ifCond .eq 7, 3) := by decide +kernel
theorem dL_law_919 : decode cL_law 919 = .ok (.iconst 1, 1) := by decide +kernel
theorem dL_law_920 : decode cL_law 920 = .ok (.goto 4, 3) := by decide +kernel
theorem dL_law_923 : decode cL_law 923 = .ok (.iconst 0, 1) := by decide +kernel
theorem dL_law_924 : decode cL_law 924 = .ok (.invokevirtual 142, 3) := by decide +kernel
theorem dL_law_927 : decode cL_law 927 = .ok (.istore 6, 2) := by decide +kernel
theorem dL_law_929 : decode cL_law 929 = .ok (.aload_n 2, 1) := by decide +kernel
theorem dL_law_930 : decode cL_law 930 = .ok (.invokevirtual 105, 3) := by decide +kernel
theorem dL_law_933 : decode cL_law 933 = .ok (.iload 5, 2) := by decide +kernel
theorem dL_law_935 : decode cL_law 935 = .ok (.if_icmp .eq 5, 3) := by decide +kernel
theorem dL_law_938 : decode cL_law 938 = .ok (.iconst 0, 1) := by decide +kernel
theorem dL_law_939 : decode cL_law 939 = .ok (.ireturn, 1) := by decide +kernel
theorem dL_law_940 : decode cL_law 940 = .ok (.iload 5, 2) := by decide +kernel
theorem dL_law_942 : decode cL_law 942 = .ok (.ifCond .ne 15, 3) := by decide +kernel
theorem dL_law_945 : decode cL_law 945 = .ok (.aload_n 3, 1) := by decide +kernel
theorem dL_law_946 : decode cL_law 946 = .ok (.iconst 0, 1) := by decide +kernel
theorem dL_law_947 : decode cL_law 947 = .ok (.laload, 1) := by decide +kernel
theorem dL_law_948 : decode cL_law 948 = .ok (.iload 6, 2) := by decide +kernel
theorem dL_law_950 : decode cL_law 950 = .ok (.i2l, 1) := by decide +kernel
theorem dL_law_951 : decode cL_law 951 = .ok (.lcmp, 1) := by decide +kernel
theorem dL_law_952 : decode cL_law 952 = .ok (.ifCond .eq 5, 3) := by decide +kernel
theorem dL_law_955 : decode cL_law 955 = .ok (.iconst 0, 1) := by decide +kernel
theorem dL_law_956 : decode cL_law 956 = .ok (.ireturn, 1) := by decide +kernel
theorem dL_law_957 : decode cL_law 957 = .ok (.goto 803, 3) := by decide +kernel
theorem dL_law_960 : decode cL_law 960 = .ok (.aload_n 1, 1) := by decide +kernel
theorem dL_law_961 : decode cL_law 961 = .ok (.aload_n 0, 1) := by decide +kernel
theorem dL_law_962 : decode cL_law 962 = .ok (.iload 4, 2) := by decide +kernel
theorem dL_law_964 : decode cL_law 964 = .ok (.iconst 1, 1) := by decide +kernel
theorem dL_law_965 : decode cL_law 965 = .ok (.iadd, 1) := by decide +kernel
theorem dL_law_966 : decode cL_law 966 = .ok (.iaload, 1) := by decide +kernel
theorem dL_law_967 : decode cL_law 967 = .ok (.aload_n 3, 1) := by decide +kernel
theorem dL_law_968 : decode cL_law 968 = .ok (.invokestatic 143, 3) := by decide +kernel
theorem dL_law_971 : decode cL_law 971 = .ok (.istore 5, 2) := by decide +kernel
theorem dL_law_973 : decode cL_law 973 = .ok (.aload_n 2, 1) := by decide +kernel
theorem dL_law_974 : decode cL_law 974 = .ok (.aload_n 0, 1) := by decide +kernel
theorem dL_law_975 : decode cL_law 975 = .ok (.iload 4, 2) := by decide +kernel
theorem dL_law_977 : decode cL_law 977 = .ok (.iconst 1, 1) := by decide +kernel
theorem dL_law_978 : decode cL_law 978 = .ok (.iadd, 1) := by decide +kernel
theorem dL_law_979 : decode cL_law 979 = .ok (.iaload, 1) := by decide +kernel
theorem dL_law_980 : decode cL_law 980 = .ok (.invokevirtual 145, 3) := by decide +kernel
theorem dL_law_983 : decode cL_law 983 = .ok (.istore 6, 2) := by decide +kernel
theorem dL_law_985 : decode cL_law 985 = .ok (.aload_n 2, 1) := by decide +kernel
theorem dL_law_986 : decode cL_law 986 = .ok (.invokevirtual 105, 3) := by decide +kernel
theorem dL_law_989 : decode cL_law 989 = .ok (.iload 5, 2) := by decide +kernel
theorem dL_law_991 : decode cL_law 991 = .ok (.if_icmp .eq 5, 3) := by decide +kernel
theorem dL_law_994 : decode cL_law 994 = .ok (.iconst 0, 1) := by decide +kernel
theorem dL_law_995 : decode cL_law 995 = .ok (.ireturn, 1) := by decide +kernel
theorem dL_law_996 : decode cL_law 996 = .ok (.iload 5, 2) := by decide +kernel
theorem dL_law_998 : decode cL_law 998 = .ok (.ifCond .ne 15, 3) := by decide +kernel
theorem dL_law_1001 : decode cL_law 1001 = .ok (.aload_n 3, 1) := by decide +kernel
theorem dL_law_1002 : decode cL_law 1002 = .ok (.iconst 0, 1) := by decide +kernel
theorem dL_law_1003 : decode cL_law 1003 = .ok (.laload, 1) := by decide +kernel
theorem dL_law_1004 : decode cL_law 1004 = .ok (.iload 6, 2) := by decide +kernel
theorem dL_law_1006 : decode cL_law 1006 = .ok (.i2l, 1) := by decide +kernel
theorem dL_law_1007 : decode cL_law 1007 = .ok (.lcmp, 1) := by decide +kernel
theorem dL_law_1008 : decode cL_law 1008 = .ok (.ifCond .eq 5, 3) := by decide +kernel
theorem dL_law_1011 : decode cL_law 1011 = .ok (.iconst 0, 1) := by decide +kernel
theorem dL_law_1012 : decode cL_law 1012 = .ok (.ireturn, 1) := by decide +kernel
theorem dL_law_1013 : decode cL_law 1013 = .ok (.goto 747, 3) := by decide +kernel
theorem dL_law_1016 : decode cL_law 1016 = .ok (.aload_n 1, 1) := by decide +kernel
theorem dL_law_1017 : decode cL_law 1017 = .ok (.aload_n 0, 1) := by decide +kernel
theorem dL_law_1018 : decode cL_law 1018 = .ok (.iload 4, 2) := by decide +kernel
theorem dL_law_1020 : decode cL_law 1020 = .ok (.iconst 1, 1) := by decide +kernel
theorem dL_law_1021 : decode cL_law 1021 = .ok (.iadd, 1) := by decide +kernel
theorem dL_law_1022 : decode cL_law 1022 = .ok (.iaload, 1) := by decide +kernel
theorem dL_law_1023 : decode cL_law 1023 = .ok (.aload_n 3, 1) := by decide +kernel
theorem dL_law_1024 : decode cL_law 1024 = .ok (.invokestatic 146, 3) := by decide +kernel
theorem dL_law_1027 : decode cL_law 1027 = .ok (.istore 5, 2) := by decide +kernel
theorem dL_law_1029 : decode cL_law 1029 = .ok (.aload_n 2, 1) := by decide +kernel
theorem dL_law_1030 : decode cL_law 1030 = .ok (.aload_n 0, 1) := by decide +kernel
theorem dL_law_1031 : decode cL_law 1031 = .ok (.iload 4, 2) := by decide +kernel
theorem dL_law_1033 : decode cL_law 1033 = .ok (.iconst 1, 1) := by decide +kernel
theorem dL_law_1034 : decode cL_law 1034 = .ok (.iadd, 1) := by decide +kernel
theorem dL_law_1035 : decode cL_law 1035 = .ok (.iaload, 1) := by decide +kernel
theorem dL_law_1036 : decode cL_law 1036 = .ok (.invokevirtual 148, 3) := by decide +kernel
theorem dL_law_1039 : decode cL_law 1039 = .ok (.istore 6, 2) := by decide +kernel
theorem dL_law_1041 : decode cL_law 1041 = .ok (.aload_n 2, 1) := by decide +kernel
theorem dL_law_1042 : decode cL_law 1042 = .ok (.invokevirtual 105, 3) := by decide +kernel
theorem dL_law_1045 : decode cL_law 1045 = .ok (.iload 5, 2) := by decide +kernel
theorem dL_law_1047 : decode cL_law 1047 = .ok (.if_icmp .eq 5, 3) := by decide +kernel
theorem dL_law_1050 : decode cL_law 1050 = .ok (.iconst 0, 1) := by decide +kernel
theorem dL_law_1051 : decode cL_law 1051 = .ok (.ireturn, 1) := by decide +kernel
theorem dL_law_1052 : decode cL_law 1052 = .ok (.iload 5, 2) := by decide +kernel
theorem dL_law_1054 : decode cL_law 1054 = .ok (.ifCond .ne 15, 3) := by decide +kernel
theorem dL_law_1057 : decode cL_law 1057 = .ok (.aload_n 3, 1) := by decide +kernel
theorem dL_law_1058 : decode cL_law 1058 = .ok (.iconst 0, 1) := by decide +kernel
theorem dL_law_1059 : decode cL_law 1059 = .ok (.laload, 1) := by decide +kernel
theorem dL_law_1060 : decode cL_law 1060 = .ok (.iload 6, 2) := by decide +kernel
theorem dL_law_1062 : decode cL_law 1062 = .ok (.i2l, 1) := by decide +kernel
theorem dL_law_1063 : decode cL_law 1063 = .ok (.lcmp, 1) := by decide +kernel
theorem dL_law_1064 : decode cL_law 1064 = .ok (.ifCond .eq 5, 3) := by decide +kernel
theorem dL_law_1067 : decode cL_law 1067 = .ok (.iconst 0, 1) := by decide +kernel
theorem dL_law_1068 : decode cL_law 1068 = .ok (.ireturn, 1) := by decide +kernel
theorem dL_law_1069 : decode cL_law 1069 = .ok (.goto 691, 3) := by decide +kernel
theorem dL_law_1072 : decode cL_law 1072 = .ok (.aload_n 1, 1) := by decide +kernel
theorem dL_law_1073 : decode cL_law 1073 = .ok (.aload_n 0, 1) := by decide +kernel
theorem dL_law_1074 : decode cL_law 1074 = .ok (.iload 4, 2) := by decide +kernel
theorem dL_law_1076 : decode cL_law 1076 = .ok (.iconst 1, 1) := by decide +kernel
theorem dL_law_1077 : decode cL_law 1077 = .ok (.iadd, 1) := by decide +kernel
theorem dL_law_1078 : decode cL_law 1078 = .ok (.iaload, 1) := by decide +kernel
theorem dL_law_1079 : decode cL_law 1079 = .ok (.aload_n 3, 1) := by decide +kernel
theorem dL_law_1080 : decode cL_law 1080 = .ok (.invokestatic 149, 3) := by decide +kernel
theorem dL_law_1083 : decode cL_law 1083 = .ok (.istore 5, 2) := by decide +kernel
theorem dL_law_1085 : decode cL_law 1085 = .ok (.aload_n 2, 1) := by decide +kernel
theorem dL_law_1086 : decode cL_law 1086 = .ok (.aload_n 0, 1) := by decide +kernel
theorem dL_law_1087 : decode cL_law 1087 = .ok (.iload 4, 2) := by decide +kernel
theorem dL_law_1089 : decode cL_law 1089 = .ok (.iconst 1, 1) := by decide +kernel
theorem dL_law_1090 : decode cL_law 1090 = .ok (.iadd, 1) := by decide +kernel
theorem dL_law_1091 : decode cL_law 1091 = .ok (.iaload, 1) := by decide +kernel
theorem dL_law_1092 : decode cL_law 1092 = .ok (.invokevirtual 151, 3) := by decide +kernel
theorem dL_law_1095 : decode cL_law 1095 = .ok (.istore 6, 2) := by decide +kernel
theorem dL_law_1097 : decode cL_law 1097 = .ok (.aload_n 2, 1) := by decide +kernel
theorem dL_law_1098 : decode cL_law 1098 = .ok (.invokevirtual 105, 3) := by decide +kernel
theorem dL_law_1101 : decode cL_law 1101 = .ok (.iload 5, 2) := by decide +kernel
theorem dL_law_1103 : decode cL_law 1103 = .ok (.if_icmp .eq 5, 3) := by decide +kernel
theorem dL_law_1106 : decode cL_law 1106 = .ok (.iconst 0, 1) := by decide +kernel
theorem dL_law_1107 : decode cL_law 1107 = .ok (.ireturn, 1) := by decide +kernel
theorem dL_law_1108 : decode cL_law 1108 = .ok (.iload 5, 2) := by decide +kernel
theorem dL_law_1110 : decode cL_law 1110 = .ok (.ifCond .ne 15, 3) := by decide +kernel
theorem dL_law_1113 : decode cL_law 1113 = .ok (.aload_n 3, 1) := by decide +kernel
theorem dL_law_1114 : decode cL_law 1114 = .ok (.iconst 0, 1) := by decide +kernel
theorem dL_law_1115 : decode cL_law 1115 = .ok (.laload, 1) := by decide +kernel
theorem dL_law_1116 : decode cL_law 1116 = .ok (.iload 6, 2) := by decide +kernel
theorem dL_law_1118 : decode cL_law 1118 = .ok (.i2l, 1) := by decide +kernel
theorem dL_law_1119 : decode cL_law 1119 = .ok (.lcmp, 1) := by decide +kernel
theorem dL_law_1120 : decode cL_law 1120 = .ok (.ifCond .eq 5, 3) := by decide +kernel
theorem dL_law_1123 : decode cL_law 1123 = .ok (.iconst 0, 1) := by decide +kernel
theorem dL_law_1124 : decode cL_law 1124 = .ok (.ireturn, 1) := by decide +kernel
theorem dL_law_1125 : decode cL_law 1125 = .ok (.goto 635, 3) := by decide +kernel
theorem dL_law_1128 : decode cL_law 1128 = .ok (.aload_n 1, 1) := by decide +kernel
theorem dL_law_1129 : decode cL_law 1129 = .ok (.invokevirtual 152, 3) := by decide +kernel
theorem dL_law_1132 : decode cL_law 1132 = .ok (.aload_n 2, 1) := by decide +kernel
theorem dL_law_1133 : decode cL_law 1133 = .ok (.invokevirtual 155, 3) := by decide +kernel
theorem dL_law_1136 : decode cL_law 1136 = .ok (.if_icmp .eq 624, 3) := by decide +kernel
theorem dL_law_1139 : decode cL_law 1139 = .ok (.iconst 0, 1) := by decide +kernel
theorem dL_law_1140 : decode cL_law 1140 = .ok (.ireturn, 1) := by decide +kernel
theorem dL_law_1141 : decode cL_law 1141 = .ok (.aload_n 1, 1) := by decide +kernel
theorem dL_law_1142 : decode cL_law 1142 = .ok (.aload_n 0, 1) := by decide +kernel
theorem dL_law_1143 : decode cL_law 1143 = .ok (.iload 4, 2) := by decide +kernel
theorem dL_law_1145 : decode cL_law 1145 = .ok (.iconst 1, 1) := by decide +kernel
theorem dL_law_1146 : decode cL_law 1146 = .ok (.iadd, 1) := by decide +kernel
theorem dL_law_1147 : decode cL_law 1147 = .ok (.iaload, 1) := by decide +kernel
theorem dL_law_1148 : decode cL_law 1148 = .ok (.aload_n 3, 1) := by decide +kernel
theorem dL_law_1149 : decode cL_law 1149 = .ok (.invokestatic 156, 3) := by decide +kernel
theorem dL_law_1152 : decode cL_law 1152 = .ok (.istore 5, 2) := by decide +kernel
theorem dL_law_1154 : decode cL_law 1154 = .ok (.aload_n 2, 1) := by decide +kernel
theorem dL_law_1155 : decode cL_law 1155 = .ok (.aload_n 0, 1) := by decide +kernel
theorem dL_law_1156 : decode cL_law 1156 = .ok (.iload 4, 2) := by decide +kernel
theorem dL_law_1158 : decode cL_law 1158 = .ok (.iconst 1, 1) := by decide +kernel
theorem dL_law_1159 : decode cL_law 1159 = .ok (.iadd, 1) := by decide +kernel
theorem dL_law_1160 : decode cL_law 1160 = .ok (.iaload, 1) := by decide +kernel
theorem dL_law_1161 : decode cL_law 1161 = .ok (.invokevirtual 158, 3) := by decide +kernel
theorem dL_law_1164 : decode cL_law 1164 = .ok (.istore 6, 2) := by decide +kernel
theorem dL_law_1166 : decode cL_law 1166 = .ok (.aload_n 2, 1) := by decide +kernel
theorem dL_law_1167 : decode cL_law 1167 = .ok (.invokevirtual 105, 3) := by decide +kernel
theorem dL_law_1170 : decode cL_law 1170 = .ok (.iload 5, 2) := by decide +kernel
theorem dL_law_1172 : decode cL_law 1172 = .ok (.if_icmp .eq 5, 3) := by decide +kernel
theorem dL_law_1175 : decode cL_law 1175 = .ok (.iconst 0, 1) := by decide +kernel
theorem dL_law_1176 : decode cL_law 1176 = .ok (.ireturn, 1) := by decide +kernel
theorem dL_law_1177 : decode cL_law 1177 = .ok (.iload 5, 2) := by decide +kernel
theorem dL_law_1179 : decode cL_law 1179 = .ok (.ifCond .ne 15, 3) := by decide +kernel
theorem dL_law_1182 : decode cL_law 1182 = .ok (.aload_n 3, 1) := by decide +kernel
theorem dL_law_1183 : decode cL_law 1183 = .ok (.iconst 0, 1) := by decide +kernel
theorem dL_law_1184 : decode cL_law 1184 = .ok (.laload, 1) := by decide +kernel
theorem dL_law_1185 : decode cL_law 1185 = .ok (.iload 6, 2) := by decide +kernel
theorem dL_law_1187 : decode cL_law 1187 = .ok (.i2l, 1) := by decide +kernel
theorem dL_law_1188 : decode cL_law 1188 = .ok (.lcmp, 1) := by decide +kernel
theorem dL_law_1189 : decode cL_law 1189 = .ok (.ifCond .eq 5, 3) := by decide +kernel
theorem dL_law_1192 : decode cL_law 1192 = .ok (.iconst 0, 1) := by decide +kernel
theorem dL_law_1193 : decode cL_law 1193 = .ok (.ireturn, 1) := by decide +kernel
theorem dL_law_1194 : decode cL_law 1194 = .ok (.goto 566, 3) := by decide +kernel
theorem dL_law_1197 : decode cL_law 1197 = .ok (.aload_n 1, 1) := by decide +kernel
theorem dL_law_1198 : decode cL_law 1198 = .ok (.aload_n 0, 1) := by decide +kernel
theorem dL_law_1199 : decode cL_law 1199 = .ok (.iload 4, 2) := by decide +kernel
theorem dL_law_1201 : decode cL_law 1201 = .ok (.iconst 1, 1) := by decide +kernel
theorem dL_law_1202 : decode cL_law 1202 = .ok (.iadd, 1) := by decide +kernel
theorem dL_law_1203 : decode cL_law 1203 = .ok (.iaload, 1) := by decide +kernel
theorem dL_law_1204 : decode cL_law 1204 = .ok (.aload_n 3, 1) := by decide +kernel
theorem dL_law_1205 : decode cL_law 1205 = .ok (.invokestatic 159, 3) := by decide +kernel
theorem dL_law_1208 : decode cL_law 1208 = .ok (.istore 5, 2) := by decide +kernel
theorem dL_law_1210 : decode cL_law 1210 = .ok (.aload_n 2, 1) := by decide +kernel
theorem dL_law_1211 : decode cL_law 1211 = .ok (.aload_n 0, 1) := by decide +kernel
theorem dL_law_1212 : decode cL_law 1212 = .ok (.iload 4, 2) := by decide +kernel
theorem dL_law_1214 : decode cL_law 1214 = .ok (.iconst 1, 1) := by decide +kernel
theorem dL_law_1215 : decode cL_law 1215 = .ok (.iadd, 1) := by decide +kernel
theorem dL_law_1216 : decode cL_law 1216 = .ok (.iaload, 1) := by decide +kernel
theorem dL_law_1217 : decode cL_law 1217 = .ok (.invokevirtual 161, 3) := by decide +kernel
theorem dL_law_1220 : decode cL_law 1220 = .ok (.istore 6, 2) := by decide +kernel
theorem dL_law_1222 : decode cL_law 1222 = .ok (.aload_n 2, 1) := by decide +kernel
theorem dL_law_1223 : decode cL_law 1223 = .ok (.invokevirtual 105, 3) := by decide +kernel
theorem dL_law_1226 : decode cL_law 1226 = .ok (.iload 5, 2) := by decide +kernel
theorem dL_law_1228 : decode cL_law 1228 = .ok (.if_icmp .eq 5, 3) := by decide +kernel
theorem dL_law_1231 : decode cL_law 1231 = .ok (.iconst 0, 1) := by decide +kernel
theorem dL_law_1232 : decode cL_law 1232 = .ok (.ireturn, 1) := by decide +kernel
theorem dL_law_1233 : decode cL_law 1233 = .ok (.iload 5, 2) := by decide +kernel
theorem dL_law_1235 : decode cL_law 1235 = .ok (.ifCond .ne 15, 3) := by decide +kernel
theorem dL_law_1238 : decode cL_law 1238 = .ok (.aload_n 3, 1) := by decide +kernel
theorem dL_law_1239 : decode cL_law 1239 = .ok (.iconst 0, 1) := by decide +kernel
theorem dL_law_1240 : decode cL_law 1240 = .ok (.laload, 1) := by decide +kernel
theorem dL_law_1241 : decode cL_law 1241 = .ok (.iload 6, 2) := by decide +kernel
theorem dL_law_1243 : decode cL_law 1243 = .ok (.i2l, 1) := by decide +kernel
theorem dL_law_1244 : decode cL_law 1244 = .ok (.lcmp, 1) := by decide +kernel
theorem dL_law_1245 : decode cL_law 1245 = .ok (.ifCond .eq 5, 3) := by decide +kernel
theorem dL_law_1248 : decode cL_law 1248 = .ok (.iconst 0, 1) := by decide +kernel
theorem dL_law_1249 : decode cL_law 1249 = .ok (.ireturn, 1) := by decide +kernel
theorem dL_law_1250 : decode cL_law 1250 = .ok (.goto 510, 3) := by decide +kernel
theorem dL_law_1253 : decode cL_law 1253 = .ok (.aload_n 1, 1) := by decide +kernel
theorem dL_law_1254 : decode cL_law 1254 = .ok (.aload_n 0, 1) := by decide +kernel
theorem dL_law_1255 : decode cL_law 1255 = .ok (.iload 4, 2) := by decide +kernel
theorem dL_law_1257 : decode cL_law 1257 = .ok (.iconst 1, 1) := by decide +kernel
theorem dL_law_1258 : decode cL_law 1258 = .ok (.iadd, 1) := by decide +kernel
theorem dL_law_1259 : decode cL_law 1259 = .ok (.iaload, 1) := by decide +kernel
theorem dL_law_1260 : decode cL_law 1260 = .ok (.aload_n 3, 1) := by decide +kernel
theorem dL_law_1261 : decode cL_law 1261 = .ok (.invokestatic 162, 3) := by decide +kernel
theorem dL_law_1264 : decode cL_law 1264 = .ok (.istore 5, 2) := by decide +kernel
theorem dL_law_1266 : decode cL_law 1266 = .ok (.aload_n 2, 1) := by decide +kernel
theorem dL_law_1267 : decode cL_law 1267 = .ok (.aload_n 0, 1) := by decide +kernel
theorem dL_law_1268 : decode cL_law 1268 = .ok (.iload 4, 2) := by decide +kernel
theorem dL_law_1270 : decode cL_law 1270 = .ok (.iconst 1, 1) := by decide +kernel
theorem dL_law_1271 : decode cL_law 1271 = .ok (.iadd, 1) := by decide +kernel
theorem dL_law_1272 : decode cL_law 1272 = .ok (.iaload, 1) := by decide +kernel
theorem dL_law_1273 : decode cL_law 1273 = .ok (.invokevirtual 164, 3) := by decide +kernel
theorem dL_law_1276 : decode cL_law 1276 = .ok (.istore 6, 2) := by decide +kernel
theorem dL_law_1278 : decode cL_law 1278 = .ok (.aload_n 2, 1) := by decide +kernel
theorem dL_law_1279 : decode cL_law 1279 = .ok (.invokevirtual 105, 3) := by decide +kernel
theorem dL_law_1282 : decode cL_law 1282 = .ok (.iload 5, 2) := by decide +kernel
theorem dL_law_1284 : decode cL_law 1284 = .ok (.if_icmp .eq 5, 3) := by decide +kernel
theorem dL_law_1287 : decode cL_law 1287 = .ok (.iconst 0, 1) := by decide +kernel
theorem dL_law_1288 : decode cL_law 1288 = .ok (.ireturn, 1) := by decide +kernel
theorem dL_law_1289 : decode cL_law 1289 = .ok (.iload 5, 2) := by decide +kernel
theorem dL_law_1291 : decode cL_law 1291 = .ok (.ifCond .ne 15, 3) := by decide +kernel
theorem dL_law_1294 : decode cL_law 1294 = .ok (.aload_n 3, 1) := by decide +kernel
theorem dL_law_1295 : decode cL_law 1295 = .ok (.iconst 0, 1) := by decide +kernel
theorem dL_law_1296 : decode cL_law 1296 = .ok (.laload, 1) := by decide +kernel
theorem dL_law_1297 : decode cL_law 1297 = .ok (.iload 6, 2) := by decide +kernel
theorem dL_law_1299 : decode cL_law 1299 = .ok (.i2l, 1) := by decide +kernel
theorem dL_law_1300 : decode cL_law 1300 = .ok (.lcmp, 1) := by decide +kernel
theorem dL_law_1301 : decode cL_law 1301 = .ok (.ifCond .eq 5, 3) := by decide +kernel
theorem dL_law_1304 : decode cL_law 1304 = .ok (.iconst 0, 1) := by decide +kernel
theorem dL_law_1305 : decode cL_law 1305 = .ok (.ireturn, 1) := by decide +kernel
theorem dL_law_1306 : decode cL_law 1306 = .ok (.goto 454, 3) := by decide +kernel
theorem dL_law_1309 : decode cL_law 1309 = .ok (.aload_n 1, 1) := by decide +kernel
theorem dL_law_1310 : decode cL_law 1310 = .ok (.aload_n 0, 1) := by decide +kernel
theorem dL_law_1311 : decode cL_law 1311 = .ok (.iload 4, 2) := by decide +kernel
theorem dL_law_1313 : decode cL_law 1313 = .ok (.iconst 1, 1) := by decide +kernel
theorem dL_law_1314 : decode cL_law 1314 = .ok (.iadd, 1) := by decide +kernel
theorem dL_law_1315 : decode cL_law 1315 = .ok (.iaload, 1) := by decide +kernel
theorem dL_law_1316 : decode cL_law 1316 = .ok (.aload_n 3, 1) := by decide +kernel
theorem dL_law_1317 : decode cL_law 1317 = .ok (.invokestatic 165, 3) := by decide +kernel
theorem dL_law_1320 : decode cL_law 1320 = .ok (.istore 5, 2) := by decide +kernel
theorem dL_law_1322 : decode cL_law 1322 = .ok (.aload_n 2, 1) := by decide +kernel
theorem dL_law_1323 : decode cL_law 1323 = .ok (.aload_n 0, 1) := by decide +kernel
theorem dL_law_1324 : decode cL_law 1324 = .ok (.iload 4, 2) := by decide +kernel
theorem dL_law_1326 : decode cL_law 1326 = .ok (.iconst 1, 1) := by decide +kernel
theorem dL_law_1327 : decode cL_law 1327 = .ok (.iadd, 1) := by decide +kernel
theorem dL_law_1328 : decode cL_law 1328 = .ok (.iaload, 1) := by decide +kernel
theorem dL_law_1329 : decode cL_law 1329 = .ok (.invokevirtual 167, 3) := by decide +kernel
theorem dL_law_1332 : decode cL_law 1332 = .ok (.istore 6, 2) := by decide +kernel
theorem dL_law_1334 : decode cL_law 1334 = .ok (.aload_n 2, 1) := by decide +kernel
theorem dL_law_1335 : decode cL_law 1335 = .ok (.invokevirtual 105, 3) := by decide +kernel
theorem dL_law_1338 : decode cL_law 1338 = .ok (.iload 5, 2) := by decide +kernel
theorem dL_law_1340 : decode cL_law 1340 = .ok (.if_icmp .eq 5, 3) := by decide +kernel
theorem dL_law_1343 : decode cL_law 1343 = .ok (.iconst 0, 1) := by decide +kernel
theorem dL_law_1344 : decode cL_law 1344 = .ok (.ireturn, 1) := by decide +kernel
theorem dL_law_1345 : decode cL_law 1345 = .ok (.iload 5, 2) := by decide +kernel
theorem dL_law_1347 : decode cL_law 1347 = .ok (.ifCond .ne 15, 3) := by decide +kernel
theorem dL_law_1350 : decode cL_law 1350 = .ok (.aload_n 3, 1) := by decide +kernel
theorem dL_law_1351 : decode cL_law 1351 = .ok (.iconst 0, 1) := by decide +kernel
theorem dL_law_1352 : decode cL_law 1352 = .ok (.laload, 1) := by decide +kernel
theorem dL_law_1353 : decode cL_law 1353 = .ok (.iload 6, 2) := by decide +kernel
theorem dL_law_1355 : decode cL_law 1355 = .ok (.i2l, 1) := by decide +kernel
theorem dL_law_1356 : decode cL_law 1356 = .ok (.lcmp, 1) := by decide +kernel
theorem dL_law_1357 : decode cL_law 1357 = .ok (.ifCond .eq 5, 3) := by decide +kernel
theorem dL_law_1360 : decode cL_law 1360 = .ok (.iconst 0, 1) := by decide +kernel
theorem dL_law_1361 : decode cL_law 1361 = .ok (.ireturn, 1) := by decide +kernel
theorem dL_law_1362 : decode cL_law 1362 = .ok (.goto 398, 3) := by decide +kernel
theorem dL_law_1365 : decode cL_law 1365 = .ok (.aload_n 1, 1) := by decide +kernel
theorem dL_law_1366 : decode cL_law 1366 = .ok (.aload_n 0, 1) := by decide +kernel
theorem dL_law_1367 : decode cL_law 1367 = .ok (.iload 4, 2) := by decide +kernel
theorem dL_law_1369 : decode cL_law 1369 = .ok (.iconst 1, 1) := by decide +kernel
theorem dL_law_1370 : decode cL_law 1370 = .ok (.iadd, 1) := by decide +kernel
theorem dL_law_1371 : decode cL_law 1371 = .ok (.iaload, 1) := by decide +kernel
theorem dL_law_1372 : decode cL_law 1372 = .ok (.aload_n 3, 1) := by decide +kernel
theorem dL_law_1373 : decode cL_law 1373 = .ok (.invokestatic 168, 3) := by decide +kernel
theorem dL_law_1376 : decode cL_law 1376 = .ok (.istore 5, 2) := by decide +kernel
theorem dL_law_1378 : decode cL_law 1378 = .ok (.aload_n 2, 1) := by decide +kernel
theorem dL_law_1379 : decode cL_law 1379 = .ok (.aload_n 0, 1) := by decide +kernel
theorem dL_law_1380 : decode cL_law 1380 = .ok (.iload 4, 2) := by decide +kernel
theorem dL_law_1382 : decode cL_law 1382 = .ok (.iconst 1, 1) := by decide +kernel
theorem dL_law_1383 : decode cL_law 1383 = .ok (.iadd, 1) := by decide +kernel
theorem dL_law_1384 : decode cL_law 1384 = .ok (.iaload, 1) := by decide +kernel
theorem dL_law_1385 : decode cL_law 1385 = .ok (.invokevirtual 170, 3) := by decide +kernel
theorem dL_law_1388 : decode cL_law 1388 = .ok (.istore 6, 2) := by decide +kernel
theorem dL_law_1390 : decode cL_law 1390 = .ok (.aload_n 2, 1) := by decide +kernel
theorem dL_law_1391 : decode cL_law 1391 = .ok (.invokevirtual 105, 3) := by decide +kernel
theorem dL_law_1394 : decode cL_law 1394 = .ok (.iload 5, 2) := by decide +kernel
theorem dL_law_1396 : decode cL_law 1396 = .ok (.if_icmp .eq 5, 3) := by decide +kernel
theorem dL_law_1399 : decode cL_law 1399 = .ok (.iconst 0, 1) := by decide +kernel
theorem dL_law_1400 : decode cL_law 1400 = .ok (.ireturn, 1) := by decide +kernel
theorem dL_law_1401 : decode cL_law 1401 = .ok (.iload 5, 2) := by decide +kernel
theorem dL_law_1403 : decode cL_law 1403 = .ok (.ifCond .ne 22, 3) := by decide +kernel
theorem dL_law_1406 : decode cL_law 1406 = .ok (.aload_n 3, 1) := by decide +kernel
theorem dL_law_1407 : decode cL_law 1407 = .ok (.iconst 0, 1) := by decide +kernel
theorem dL_law_1408 : decode cL_law 1408 = .ok (.laload, 1) := by decide +kernel
theorem dL_law_1409 : decode cL_law 1409 = .ok (.iload 6, 2) := by decide +kernel
theorem dL_law_1411 : decode cL_law 1411 = .ok (.ifCond .eq 7, 3) := by decide +kernel
theorem dL_law_1414 : decode cL_law 1414 = .ok (.lconst 1, 1) := by decide +kernel
theorem dL_law_1415 : decode cL_law 1415 = .ok (.goto 4, 3) := by decide +kernel
theorem dL_law_1418 : decode cL_law 1418 = .ok (.lconst 0, 1) := by decide +kernel
theorem dL_law_1419 : decode cL_law 1419 = .ok (.lcmp, 1) := by decide +kernel
theorem dL_law_1420 : decode cL_law 1420 = .ok (.ifCond .eq 5, 3) := by decide +kernel
theorem dL_law_1423 : decode cL_law 1423 = .ok (.iconst 0, 1) := by decide +kernel
theorem dL_law_1424 : decode cL_law 1424 = .ok (.ireturn, 1) := by decide +kernel
theorem dL_law_1425 : decode cL_law 1425 = .ok (.goto 335, 3) := by decide +kernel
theorem dL_law_1428 : decode cL_law 1428 = .ok (.aload_n 1, 1) := by decide +kernel
theorem dL_law_1429 : decode cL_law 1429 = .ok (.aload_n 0, 1) := by decide +kernel
theorem dL_law_1430 : decode cL_law 1430 = .ok (.iload 4, 2) := by decide +kernel
theorem dL_law_1432 : decode cL_law 1432 = .ok (.iconst 1, 1) := by decide +kernel
theorem dL_law_1433 : decode cL_law 1433 = .ok (.iadd, 1) := by decide +kernel
theorem dL_law_1434 : decode cL_law 1434 = .ok (.iaload, 1) := by decide +kernel
theorem dL_law_1435 : decode cL_law 1435 = .ok (.aload_n 3, 1) := by decide +kernel
theorem dL_law_1436 : decode cL_law 1436 = .ok (.invokestatic 171, 3) := by decide +kernel
theorem dL_law_1439 : decode cL_law 1439 = .ok (.istore 5, 2) := by decide +kernel
theorem dL_law_1441 : decode cL_law 1441 = .ok (.aload_n 2, 1) := by decide +kernel
theorem dL_law_1442 : decode cL_law 1442 = .ok (.aload_n 0, 1) := by decide +kernel
theorem dL_law_1443 : decode cL_law 1443 = .ok (.iload 4, 2) := by decide +kernel
theorem dL_law_1445 : decode cL_law 1445 = .ok (.iconst 1, 1) := by decide +kernel
theorem dL_law_1446 : decode cL_law 1446 = .ok (.iadd, 1) := by decide +kernel
theorem dL_law_1447 : decode cL_law 1447 = .ok (.iaload, 1) := by decide +kernel
theorem dL_law_1448 : decode cL_law 1448 = .ok (.invokevirtual 173, 3) := by decide +kernel
theorem dL_law_1451 : decode cL_law 1451 = .ok (.istore 6, 2) := by decide +kernel
theorem dL_law_1453 : decode cL_law 1453 = .ok (.aload_n 2, 1) := by decide +kernel
theorem dL_law_1454 : decode cL_law 1454 = .ok (.invokevirtual 105, 3) := by decide +kernel
theorem dL_law_1457 : decode cL_law 1457 = .ok (.iload 5, 2) := by decide +kernel
theorem dL_law_1459 : decode cL_law 1459 = .ok (.if_icmp .eq 5, 3) := by decide +kernel
theorem dL_law_1462 : decode cL_law 1462 = .ok (.iconst 0, 1) := by decide +kernel
theorem dL_law_1463 : decode cL_law 1463 = .ok (.ireturn, 1) := by decide +kernel
theorem dL_law_1464 : decode cL_law 1464 = .ok (.iload 5, 2) := by decide +kernel
theorem dL_law_1466 : decode cL_law 1466 = .ok (.ifCond .ne 15, 3) := by decide +kernel
theorem dL_law_1469 : decode cL_law 1469 = .ok (.aload_n 3, 1) := by decide +kernel
theorem dL_law_1470 : decode cL_law 1470 = .ok (.iconst 0, 1) := by decide +kernel
theorem dL_law_1471 : decode cL_law 1471 = .ok (.laload, 1) := by decide +kernel
theorem dL_law_1472 : decode cL_law 1472 = .ok (.iload 6, 2) := by decide +kernel
theorem dL_law_1474 : decode cL_law 1474 = .ok (.i2l, 1) := by decide +kernel
theorem dL_law_1475 : decode cL_law 1475 = .ok (.lcmp, 1) := by decide +kernel
theorem dL_law_1476 : decode cL_law 1476 = .ok (.ifCond .eq 5, 3) := by decide +kernel
theorem dL_law_1479 : decode cL_law 1479 = .ok (.iconst 0, 1) := by decide +kernel
theorem dL_law_1480 : decode cL_law 1480 = .ok (.ireturn, 1) := by decide +kernel
theorem dL_law_1481 : decode cL_law 1481 = .ok (.goto 279, 3) := by decide +kernel
theorem dL_law_1484 : decode cL_law 1484 = .ok (.aload_n 1, 1) := by decide +kernel
theorem dL_law_1485 : decode cL_law 1485 = .ok (.aload_n 0, 1) := by decide +kernel
theorem dL_law_1486 : decode cL_law 1486 = .ok (.iload 4, 2) := by decide +kernel
theorem dL_law_1488 : decode cL_law 1488 = .ok (.iconst 1, 1) := by decide +kernel
theorem dL_law_1489 : decode cL_law 1489 = .ok (.iadd, 1) := by decide +kernel
theorem dL_law_1490 : decode cL_law 1490 = .ok (.iaload, 1) := by decide +kernel
theorem dL_law_1491 : decode cL_law 1491 = .ok (.aload_n 3, 1) := by decide +kernel
theorem dL_law_1492 : decode cL_law 1492 = .ok (.invokestatic 174, 3) := by decide +kernel
theorem dL_law_1495 : decode cL_law 1495 = .ok (.istore 5, 2) := by decide +kernel
theorem dL_law_1497 : decode cL_law 1497 = .ok (.aload_n 2, 1) := by decide +kernel
theorem dL_law_1498 : decode cL_law 1498 = .ok (.aload_n 0, 1) := by decide +kernel
theorem dL_law_1499 : decode cL_law 1499 = .ok (.iload 4, 2) := by decide +kernel
theorem dL_law_1501 : decode cL_law 1501 = .ok (.iconst 1, 1) := by decide +kernel
theorem dL_law_1502 : decode cL_law 1502 = .ok (.iadd, 1) := by decide +kernel
theorem dL_law_1503 : decode cL_law 1503 = .ok (.iaload, 1) := by decide +kernel
theorem dL_law_1504 : decode cL_law 1504 = .ok (.invokevirtual 176, 3) := by decide +kernel
theorem dL_law_1507 : decode cL_law 1507 = .ok (.istore 6, 2) := by decide +kernel
theorem dL_law_1509 : decode cL_law 1509 = .ok (.aload_n 2, 1) := by decide +kernel
theorem dL_law_1510 : decode cL_law 1510 = .ok (.invokevirtual 105, 3) := by decide +kernel
theorem dL_law_1513 : decode cL_law 1513 = .ok (.iload 5, 2) := by decide +kernel
theorem dL_law_1515 : decode cL_law 1515 = .ok (.if_icmp .eq 5, 3) := by decide +kernel
theorem dL_law_1518 : decode cL_law 1518 = .ok (.iconst 0, 1) := by decide +kernel
theorem dL_law_1519 : decode cL_law 1519 = .ok (.ireturn, 1) := by decide +kernel
theorem dL_law_1520 : decode cL_law 1520 = .ok (.iload 5, 2) := by decide +kernel
theorem dL_law_1522 : decode cL_law 1522 = .ok (.ifCond .ne 15, 3) := by decide +kernel
theorem dL_law_1525 : decode cL_law 1525 = .ok (.aload_n 3, 1) := by decide +kernel
theorem dL_law_1526 : decode cL_law 1526 = .ok (.iconst 0, 1) := by decide +kernel
theorem dL_law_1527 : decode cL_law 1527 = .ok (.laload, 1) := by decide +kernel
theorem dL_law_1528 : decode cL_law 1528 = .ok (.iload 6, 2) := by decide +kernel
theorem dL_law_1530 : decode cL_law 1530 = .ok (.i2l, 1) := by decide +kernel
theorem dL_law_1531 : decode cL_law 1531 = .ok (.lcmp, 1) := by decide +kernel
theorem dL_law_1532 : decode cL_law 1532 = .ok (.ifCond .eq 5, 3) := by decide +kernel
theorem dL_law_1535 : decode cL_law 1535 = .ok (.iconst 0, 1) := by decide +kernel
theorem dL_law_1536 : decode cL_law 1536 = .ok (.ireturn, 1) := by decide +kernel
theorem dL_law_1537 : decode cL_law 1537 = .ok (.goto 223, 3) := by decide +kernel
theorem dL_law_1540 : decode cL_law 1540 = .ok (.aload_n 1, 1) := by decide +kernel
theorem dL_law_1541 : decode cL_law 1541 = .ok (.aload_n 0, 1) := by decide +kernel
theorem dL_law_1542 : decode cL_law 1542 = .ok (.iload 4, 2) := by decide +kernel
theorem dL_law_1544 : decode cL_law 1544 = .ok (.iconst 1, 1) := by decide +kernel
theorem dL_law_1545 : decode cL_law 1545 = .ok (.iadd, 1) := by decide +kernel
theorem dL_law_1546 : decode cL_law 1546 = .ok (.iaload, 1) := by decide +kernel
theorem dL_law_1547 : decode cL_law 1547 = .ok (.aload_n 3, 1) := by decide +kernel
theorem dL_law_1548 : decode cL_law 1548 = .ok (.invokestatic 177, 3) := by decide +kernel
theorem dL_law_1551 : decode cL_law 1551 = .ok (.istore 5, 2) := by decide +kernel
theorem dL_law_1553 : decode cL_law 1553 = .ok (.aload_n 2, 1) := by decide +kernel
theorem dL_law_1554 : decode cL_law 1554 = .ok (.aload_n 0, 1) := by decide +kernel
theorem dL_law_1555 : decode cL_law 1555 = .ok (.iload 4, 2) := by decide +kernel
theorem dL_law_1557 : decode cL_law 1557 = .ok (.iconst 1, 1) := by decide +kernel
theorem dL_law_1558 : decode cL_law 1558 = .ok (.iadd, 1) := by decide +kernel
theorem dL_law_1559 : decode cL_law 1559 = .ok (.iaload, 1) := by decide +kernel
theorem dL_law_1560 : decode cL_law 1560 = .ok (.invokevirtual 179, 3) := by decide +kernel
theorem dL_law_1563 : decode cL_law 1563 = .ok (.istore 6, 2) := by decide +kernel
theorem dL_law_1565 : decode cL_law 1565 = .ok (.aload_n 2, 1) := by decide +kernel
theorem dL_law_1566 : decode cL_law 1566 = .ok (.invokevirtual 105, 3) := by decide +kernel
theorem dL_law_1569 : decode cL_law 1569 = .ok (.iload 5, 2) := by decide +kernel
theorem dL_law_1571 : decode cL_law 1571 = .ok (.if_icmp .eq 5, 3) := by decide +kernel
theorem dL_law_1574 : decode cL_law 1574 = .ok (.iconst 0, 1) := by decide +kernel
theorem dL_law_1575 : decode cL_law 1575 = .ok (.ireturn, 1) := by decide +kernel
theorem dL_law_1576 : decode cL_law 1576 = .ok (.iload 5, 2) := by decide +kernel
theorem dL_law_1578 : decode cL_law 1578 = .ok (.ifCond .ne 15, 3) := by decide +kernel
theorem dL_law_1581 : decode cL_law 1581 = .ok (.aload_n 3, 1) := by decide +kernel
theorem dL_law_1582 : decode cL_law 1582 = .ok (.iconst 0, 1) := by decide +kernel
theorem dL_law_1583 : decode cL_law 1583 = .ok (.laload, 1) := by decide +kernel
theorem dL_law_1584 : decode cL_law 1584 = .ok (.iload 6, 2) := by decide +kernel
theorem dL_law_1586 : decode cL_law 1586 = .ok (.i2l, 1) := by decide +kernel
theorem dL_law_1587 : decode cL_law 1587 = .ok (.lcmp, 1) := by decide +kernel
theorem dL_law_1588 : decode cL_law 1588 = .ok (.ifCond .eq 5, 3) := by decide +kernel
theorem dL_law_1591 : decode cL_law 1591 = .ok (.iconst 0, 1) := by decide +kernel
theorem dL_law_1592 : decode cL_law 1592 = .ok (.ireturn, 1) := by decide +kernel
theorem dL_law_1593 : decode cL_law 1593 = .ok (.goto 167, 3) := by decide +kernel
theorem dL_law_1596 : decode cL_law 1596 = .ok (.aload_n 1, 1) := by decide +kernel
theorem dL_law_1597 : decode cL_law 1597 = .ok (.aload_n 0, 1) := by decide +kernel
theorem dL_law_1598 : decode cL_law 1598 = .ok (.iload 4, 2) := by decide +kernel
theorem dL_law_1600 : decode cL_law 1600 = .ok (.iconst 1, 1) := by decide +kernel
theorem dL_law_1601 : decode cL_law 1601 = .ok (.iadd, 1) := by decide +kernel
theorem dL_law_1602 : decode cL_law 1602 = .ok (.iaload, 1) := by decide +kernel
theorem dL_law_1603 : decode cL_law 1603 = .ok (.aload_n 3, 1) := by decide +kernel
theorem dL_law_1604 : decode cL_law 1604 = .ok (.invokestatic 180, 3) := by decide +kernel
theorem dL_law_1607 : decode cL_law 1607 = .ok (.istore 5, 2) := by decide +kernel
theorem dL_law_1609 : decode cL_law 1609 = .ok (.aload_n 2, 1) := by decide +kernel
theorem dL_law_1610 : decode cL_law 1610 = .ok (.aload_n 0, 1) := by decide +kernel
theorem dL_law_1611 : decode cL_law 1611 = .ok (.iload 4, 2) := by decide +kernel
theorem dL_law_1613 : decode cL_law 1613 = .ok (.iconst 1, 1) := by decide +kernel
theorem dL_law_1614 : decode cL_law 1614 = .ok (.iadd, 1) := by decide +kernel
theorem dL_law_1615 : decode cL_law 1615 = .ok (.iaload, 1) := by decide +kernel
theorem dL_law_1616 : decode cL_law 1616 = .ok (.invokevirtual 182, 3) := by decide +kernel
theorem dL_law_1619 : decode cL_law 1619 = .ok (.istore 6, 2) := by decide +kernel
theorem dL_law_1621 : decode cL_law 1621 = .ok (.aload_n 2, 1) := by decide +kernel
theorem dL_law_1622 : decode cL_law 1622 = .ok (.invokevirtual 105, 3) := by decide +kernel
theorem dL_law_1625 : decode cL_law 1625 = .ok (.iload 5, 2) := by decide +kernel
theorem dL_law_1627 : decode cL_law 1627 = .ok (.if_icmp .eq 5, 3) := by decide +kernel
theorem dL_law_1630 : decode cL_law 1630 = .ok (.iconst 0, 1) := by decide +kernel
theorem dL_law_1631 : decode cL_law 1631 = .ok (.ireturn, 1) := by decide +kernel
theorem dL_law_1632 : decode cL_law 1632 = .ok (.iload 5, 2) := by decide +kernel
theorem dL_law_1634 : decode cL_law 1634 = .ok (.ifCond .ne 15, 3) := by decide +kernel
theorem dL_law_1637 : decode cL_law 1637 = .ok (.aload_n 3, 1) := by decide +kernel
theorem dL_law_1638 : decode cL_law 1638 = .ok (.iconst 0, 1) := by decide +kernel
theorem dL_law_1639 : decode cL_law 1639 = .ok (.laload, 1) := by decide +kernel
theorem dL_law_1640 : decode cL_law 1640 = .ok (.iload 6, 2) := by decide +kernel
theorem dL_law_1642 : decode cL_law 1642 = .ok (.i2l, 1) := by decide +kernel
theorem dL_law_1643 : decode cL_law 1643 = .ok (.lcmp, 1) := by decide +kernel
theorem dL_law_1644 : decode cL_law 1644 = .ok (.ifCond .eq 5, 3) := by decide +kernel
theorem dL_law_1647 : decode cL_law 1647 = .ok (.iconst 0, 1) := by decide +kernel
theorem dL_law_1648 : decode cL_law 1648 = .ok (.ireturn, 1) := by decide +kernel
theorem dL_law_1649 : decode cL_law 1649 = .ok (.goto 111, 3) := by decide +kernel
theorem dL_law_1652 : decode cL_law 1652 = .ok (.aload_n 1, 1) := by decide +kernel
theorem dL_law_1653 : decode cL_law 1653 = .ok (.aload_n 0, 1) := by decide +kernel
theorem dL_law_1654 : decode cL_law 1654 = .ok (.iload 4, 2) := by decide +kernel
theorem dL_law_1656 : decode cL_law 1656 = .ok (.iconst 1, 1) := by decide +kernel
theorem dL_law_1657 : decode cL_law 1657 = .ok (.iadd, 1) := by decide +kernel
theorem dL_law_1658 : decode cL_law 1658 = .ok (.iaload, 1) := by decide +kernel
theorem dL_law_1659 : decode cL_law 1659 = .ok (.aload_n 3, 1) := by decide +kernel
theorem dL_law_1660 : decode cL_law 1660 = .ok (.invokestatic 183, 3) := by decide +kernel
theorem dL_law_1663 : decode cL_law 1663 = .ok (.istore 5, 2) := by decide +kernel
theorem dL_law_1665 : decode cL_law 1665 = .ok (.aload_n 2, 1) := by decide +kernel
theorem dL_law_1666 : decode cL_law 1666 = .ok (.aload_n 0, 1) := by decide +kernel
theorem dL_law_1667 : decode cL_law 1667 = .ok (.iload 4, 2) := by decide +kernel
theorem dL_law_1669 : decode cL_law 1669 = .ok (.iconst 1, 1) := by decide +kernel
theorem dL_law_1670 : decode cL_law 1670 = .ok (.iadd, 1) := by decide +kernel
theorem dL_law_1671 : decode cL_law 1671 = .ok (.iaload, 1) := by decide +kernel
theorem dL_law_1672 : decode cL_law 1672 = .ok (.invokevirtual 185, 3) := by decide +kernel
theorem dL_law_1675 : decode cL_law 1675 = .ok (.istore 6, 2) := by decide +kernel
theorem dL_law_1677 : decode cL_law 1677 = .ok (.aload_n 2, 1) := by decide +kernel
theorem dL_law_1678 : decode cL_law 1678 = .ok (.invokevirtual 105, 3) := by decide +kernel
theorem dL_law_1681 : decode cL_law 1681 = .ok (.iload 5, 2) := by decide +kernel
theorem dL_law_1683 : decode cL_law 1683 = .ok (.if_icmp .eq 5, 3) := by decide +kernel
theorem dL_law_1686 : decode cL_law 1686 = .ok (.iconst 0, 1) := by decide +kernel
theorem dL_law_1687 : decode cL_law 1687 = .ok (.ireturn, 1) := by decide +kernel
theorem dL_law_1688 : decode cL_law 1688 = .ok (.iload 5, 2) := by decide +kernel
theorem dL_law_1690 : decode cL_law 1690 = .ok (.ifCond .ne 15, 3) := by decide +kernel
theorem dL_law_1693 : decode cL_law 1693 = .ok (.aload_n 3, 1) := by decide +kernel
theorem dL_law_1694 : decode cL_law 1694 = .ok (.iconst 0, 1) := by decide +kernel
theorem dL_law_1695 : decode cL_law 1695 = .ok (.laload, 1) := by decide +kernel
theorem dL_law_1696 : decode cL_law 1696 = .ok (.iload 6, 2) := by decide +kernel
theorem dL_law_1698 : decode cL_law 1698 = .ok (.i2l, 1) := by decide +kernel
theorem dL_law_1699 : decode cL_law 1699 = .ok (.lcmp, 1) := by decide +kernel
theorem dL_law_1700 : decode cL_law 1700 = .ok (.ifCond .eq 5, 3) := by decide +kernel
theorem dL_law_1703 : decode cL_law 1703 = .ok (.iconst 0, 1) := by decide +kernel
theorem dL_law_1704 : decode cL_law 1704 = .ok (.ireturn, 1) := by decide +kernel
theorem dL_law_1705 : decode cL_law 1705 = .ok (.goto 55, 3) := by decide +kernel
theorem dL_law_1708 : decode cL_law 1708 = .ok (.aload_n 1, 1) := by decide +kernel
theorem dL_law_1709 : decode cL_law 1709 = .ok (.invokevirtual 186, 3) := by decide +kernel
theorem dL_law_1712 : decode cL_law 1712 = .ok (.aload_n 2, 1) := by decide +kernel
theorem dL_law_1713 : decode cL_law 1713 = .ok (.invokevirtual 189, 3) := by decide +kernel
theorem dL_law_1716 : decode cL_law 1716 = .ok (.if_icmp .eq 44, 3) := by decide +kernel
theorem dL_law_1719 : decode cL_law 1719 = .ok (.iconst 0, 1) := by decide +kernel
theorem dL_law_1720 : decode cL_law 1720 = .ok (.ireturn, 1) := by decide +kernel
theorem dL_law_1721 : decode cL_law 1721 = .ok (.aload_n 1, 1) := by decide +kernel
theorem dL_law_1722 : decode cL_law 1722 = .ok (.invokevirtual 190, 3) := by decide +kernel
theorem dL_law_1725 : decode cL_law 1725 = .ok (.aload_n 2, 1) := by decide +kernel
theorem dL_law_1726 : decode cL_law 1726 = .ok (.invokevirtual 193, 3) := by decide +kernel
theorem dL_law_1729 : decode cL_law 1729 = .ok (.if_icmp .eq 31, 3) := by decide +kernel
theorem dL_law_1732 : decode cL_law 1732 = .ok (.iconst 0, 1) := by decide +kernel
theorem dL_law_1733 : decode cL_law 1733 = .ok (.ireturn, 1) := by decide +kernel
theorem dL_law_1734 : decode cL_law 1734 = .ok (.aload_n 1, 1) := by decide +kernel
theorem dL_law_1735 : decode cL_law 1735 = .ok (.invokevirtual 194, 3) := by decide +kernel
theorem dL_law_1738 : decode cL_law 1738 = .ok (.aload_n 2, 1) := by decide +kernel
theorem dL_law_1739 : decode cL_law 1739 = .ok (.invokevirtual 197, 3) := by decide +kernel
theorem dL_law_1742 : decode cL_law 1742 = .ok (.if_icmp .eq 18, 3) := by decide +kernel
theorem dL_law_1745 : decode cL_law 1745 = .ok (.iconst 0, 1) := by decide +kernel
theorem dL_law_1746 : decode cL_law 1746 = .ok (.ireturn, 1) := by decide +kernel
theorem dL_law_1747 : decode cL_law 1747 = .ok (.aload_n 1, 1) := by decide +kernel
theorem dL_law_1748 : decode cL_law 1748 = .ok (.invokevirtual 198, 3) := by decide +kernel
theorem dL_law_1751 : decode cL_law 1751 = .ok (.aload_n 2, 1) := by decide +kernel
theorem dL_law_1752 : decode cL_law 1752 = .ok (.invokevirtual 201, 3) := by decide +kernel
theorem dL_law_1755 : decode cL_law 1755 = .ok (.if_icmp .eq 5, 3) := by decide +kernel
theorem dL_law_1758 : decode cL_law 1758 = .ok (.iconst 0, 1) := by decide +kernel
theorem dL_law_1759 : decode cL_law 1759 = .ok (.ireturn, 1) := by decide +kernel
theorem dL_law_1760 : decode cL_law 1760 = .ok (.iinc 4 4, 3) := by decide +kernel
theorem dL_law_1763 : decode cL_law 1763 = .ok (.goto (-1740), 3) := by decide +kernel
theorem dL_law_1766 : decode cL_law 1766 = .ok (.iconst 1, 1) := by decide +kernel
theorem dL_law_1767 : decode cL_law 1767 = .ok (.ireturn, 1) := by decide +kernel
end
section
/-- the words of the tables that stay true in every later state -/
def pgWd : List Cond := lw_tbl.filter goodWord
theorem pg_in {w : Cond} (i : Nat) (h : (decide (tables_1[i]? = some w) && goodWord w) = true) : w ∈ pgWd := by
  simp only [Bool.and_eq_true, decide_eq_true_eq] at h
  exact List.mem_filter.mpr ⟨List.mem_append_right _ (List.mem_of_getElem? h.1), h.2⟩
theorem pg_inP {w : Cond} (i : Nat) (h : (decide ((k2_sels lw_privs)[i]? = some w) && goodWord w) = true) : w ∈ pgWd := by
  simp only [Bool.and_eq_true, decide_eq_true_eq] at h
  exact List.mem_filter.mpr ⟨List.mem_append_left _ (List.mem_of_getElem? h.1), h.2⟩
theorem pg_ins {ws : List Cond} (ps : List Nat) (h : (decide (ws = ps.filterMap (fun i => tables_1[i]?)) && ws.all goodWord) = true) : ∀ w ∈ ws, w ∈ pgWd := by
  simp only [Bool.and_eq_true, decide_eq_true_eq] at h
  intro w hw
  have h2 := List.all_eq_true.mp h.2 w hw
  rw [h.1] at hw
  obtain ⟨i, -, hi⟩ := List.mem_filterMap.mp hw
  exact List.mem_filter.mpr ⟨List.mem_append_right _ (List.mem_of_getElem? hi), h2⟩
theorem q_0 : Cond.initialized RL ∈ pgWd := pg_in 0 (by decide +kernel)
theorem q_1 : Cond.initialized RX2 ∈ pgWd := pg_in 1 (by decide +kernel)
theorem q_2 : Cond.initialized RX0 ∈ pgWd := pg_in 2 (by decide +kernel)
theorem q_3 : Cond.initialized RX3 ∈ pgWd := pg_in 3 (by decide +kernel)
theorem q_4 : Cond.initialized "java/lang/Throwable" ∈ pgWd := pg_in 4 (by decide +kernel)
theorem q_5 : Cond.initialized "java/lang/Exception" ∈ pgWd := pg_in 5 (by decide +kernel)
theorem q_6 : Cond.initialized "java/lang/RuntimeException" ∈ pgWd := pg_in 6 (by decide +kernel)
theorem q_7 : Cond.initialized "java/lang/IndexOutOfBoundsException" ∈ pgWd := pg_in 7 (by decide +kernel)
theorem q_8 : Cond.initialized "java/lang/IllegalArgumentException" ∈ pgWd := pg_in 8 (by decide +kernel)
theorem q_9 : Cond.initialized "java/lang/IllegalStateException" ∈ pgWd := pg_in 9 (by decide +kernel)
theorem q_10 : Cond.initialized RX1 ∈ pgWd := pg_in 10 (by decide +kernel)
theorem q_11 : Cond.initialized "java/util/NoSuchElementException" ∈ pgWd := pg_in 11 (by decide +kernel)
theorem q_12 : Cond.classLink RL 8 RX2 ∈ pgWd := pg_in 12 (by decide +kernel)
theorem q_13 : Cond.instantiable RX2 7 ∈ pgWd := pg_in 13 (by decide +kernel)
theorem q_14 : Cond.methodLink RL 95 yX2_init ∈ pgWd := pg_in 14 (by decide +kernel)
theorem q_15 : Cond.instanceMethod yX2_init ∈ pgWd := pg_in 15 (by decide +kernel)
theorem q_16 : Cond.code yX2_init cX2_init 2 none ∈ pgWd := pg_in 16 (by decide +kernel)
theorem q_17 : Cond.methodLink RX2 1 objectInit ∈ pgWd := pg_in 17 (by decide +kernel)
theorem q_18 : Cond.instanceMethod objectInit ∈ pgWd := pg_in 18 (by decide +kernel)
theorem q_19 : Cond.code objectInit ⟨#[0xb1]⟩ 1 none ∈ pgWd := pg_in 19 (by decide +kernel)
theorem q_20 : Cond.classLink RX2 9 RX1 ∈ pgWd := pg_in 20 (by decide +kernel)
theorem q_22 : Cond.classLink RX2 15 RX0 ∈ pgWd := pg_in 22 (by decide +kernel)
theorem q_24 : Cond.instantiable RX0 4 ∈ pgWd := pg_in 24 (by decide +kernel)
theorem q_25 : Cond.methodLink RX2 21 yX0_init ∈ pgWd := pg_in 25 (by decide +kernel)
theorem q_26 : Cond.instanceMethod yX0_init ∈ pgWd := pg_in 26 (by decide +kernel)
theorem q_27 : Cond.code yX0_init cX0_init 2 none ∈ pgWd := pg_in 27 (by decide +kernel)
theorem q_28 : Cond.methodLink RX0 3 objectInit ∈ pgWd := pg_in 28 (by decide +kernel)
theorem q_29 : Cond.fieldLink RX0 15 "Shredroll$Crate" "number" "I" ∈ pgWd := pg_in 29 (by decide +kernel)
theorem q_30 : Cond.fieldLink RX1 34 "Shredroll$Crate" "number" "I" ∈ pgWd := pg_in 30 (by decide +kernel)
theorem q_31 : Cond.fieldLink RX2 93 "Shredroll$Crate" "number" "I" ∈ pgWd := pg_in 31 (by decide +kernel)
theorem q_32 : Cond.fieldLink RX2 80 "Shredroll$Crate" "keeper" "I" ∈ pgWd := pg_in 32 (by decide +kernel)
theorem q_33 : Cond.fieldLink RX0 9 "Shredroll$Crate" "seal" "I" ∈ pgWd := pg_in 33 (by decide +kernel)
theorem q_34 : Cond.fieldLink RX2 101 "Shredroll$Crate" "seal" "I" ∈ pgWd := pg_in 34 (by decide +kernel)
theorem q_35 : Cond.fieldLink RX2 104 "Shredroll$Crate" "remembered" "I" ∈ pgWd := pg_in 35 (by decide +kernel)
theorem q_45 : Cond.fieldLink RX2 11 "Shredroll" "broughtDisks" "[LShredroll$Disk;" ∈ pgWd := pg_in 45 (by decide +kernel)
theorem q_46 : Cond.fieldLink RX2 17 "Shredroll" "allCrates" "[LShredroll$Crate;" ∈ pgWd := pg_in 46 (by decide +kernel)
theorem q_47 : Cond.fieldLink RX2 34 "Shredroll" "diskCount" "I" ∈ pgWd := pg_in 47 (by decide +kernel)
theorem q_48 : Cond.fieldLink RX2 96 "Shredroll" "sealCount" "I" ∈ pgWd := pg_in 48 (by decide +kernel)
theorem q_49 : Cond.fieldLink RX2 111 "Shredroll" "oddCount" "I" ∈ pgWd := pg_in 49 (by decide +kernel)
theorem q_50 : Cond.fieldLink RX2 181 "Shredroll" "logCount" "I" ∈ pgWd := pg_in 50 (by decide +kernel)
theorem q_51 : Cond.fieldLink RX2 164 "Shredroll" "certificateCount" "I" ∈ pgWd := pg_in 51 (by decide +kernel)
theorem q_67 : Cond.methodLink RL 152 yX2_disks ∈ pgWd := pg_in 67 (by decide +kernel)
theorem q_68 : Cond.instanceMethod yX2_disks ∈ pgWd := pg_in 68 (by decide +kernel)
theorem q_69 : Cond.selects RX2 yX2_disks yX2_disks ∈ pgWd := pg_in 69 (by decide +kernel)
theorem q_70 : Cond.code yX2_disks cX2_disks 1 (some .int) ∈ pgWd := pg_in 70 (by decide +kernel)
theorem q_71 : Cond.methodLink RL 186 yX2_missing ∈ pgWd := pg_in 71 (by decide +kernel)
theorem q_72 : Cond.instanceMethod yX2_missing ∈ pgWd := pg_in 72 (by decide +kernel)
theorem q_73 : Cond.selects RX2 yX2_missing yX2_missing ∈ pgWd := pg_in 73 (by decide +kernel)
theorem q_74 : Cond.code yX2_missing cX2_missing 6 (some .int) ∈ pgWd := pg_in 74 (by decide +kernel)
theorem q_75 : Cond.methodLink RL 190 yX2_oddCounts ∈ pgWd := pg_in 75 (by decide +kernel)
theorem q_76 : Cond.instanceMethod yX2_oddCounts ∈ pgWd := pg_in 76 (by decide +kernel)
theorem q_77 : Cond.selects RX2 yX2_oddCounts yX2_oddCounts ∈ pgWd := pg_in 77 (by decide +kernel)
theorem q_78 : Cond.code yX2_oddCounts cX2_oddCounts 1 (some .int) ∈ pgWd := pg_in 78 (by decide +kernel)
theorem q_79 : Cond.methodLink RL 194 yX2_logged ∈ pgWd := pg_in 79 (by decide +kernel)
theorem q_80 : Cond.instanceMethod yX2_logged ∈ pgWd := pg_in 80 (by decide +kernel)
theorem q_81 : Cond.selects RX2 yX2_logged yX2_logged ∈ pgWd := pg_in 81 (by decide +kernel)
theorem q_82 : Cond.code yX2_logged cX2_logged 1 (some .int) ∈ pgWd := pg_in 82 (by decide +kernel)
theorem q_83 : Cond.methodLink RL 198 yX2_certificates ∈ pgWd := pg_in 83 (by decide +kernel)
theorem q_84 : Cond.instanceMethod yX2_certificates ∈ pgWd := pg_in 84 (by decide +kernel)
theorem q_85 : Cond.selects RX2 yX2_certificates yX2_certificates ∈ pgWd := pg_in 85 (by decide +kernel)
theorem q_86 : Cond.code yX2_certificates cX2_certificates 1 (some .int) ∈ pgWd := pg_in 86 (by decide +kernel)
theorem q_87 : Cond.methodLink RL 99 yL_bring ∈ pgWd := pg_in 87 (by decide +kernel)
theorem q_88 : Cond.static yL_bring ∈ pgWd := pg_in 88 (by decide +kernel)
theorem q_89 : Cond.codeWith yL_bring cL_bring 6 (some .int) [(0, 12, 15, 13), (0, 12, 19, 15), (0, 12, 23, 17)] ∈ pgWd := pg_in 89 (by decide +kernel)
theorem q_90 : Cond.classLink RL 13 "java/lang/IndexOutOfBoundsException" ∈ pgWd := pg_in 90 (by decide +kernel)
theorem q_91 : Cond.classLink RL 15 "java/lang/IllegalArgumentException" ∈ pgWd := pg_in 91 (by decide +kernel)
theorem q_92 : Cond.classLink RL 17 "java/lang/IllegalStateException" ∈ pgWd := pg_in 92 (by decide +kernel)
theorem q_93 : Cond.methodLink RL 7 yX2_bring ∈ pgWd := pg_in 93 (by decide +kernel)
theorem q_94 : Cond.instanceMethod yX2_bring ∈ pgWd := pg_in 94 (by decide +kernel)
theorem q_95 : Cond.selects RX2 yX2_bring yX2_bring ∈ pgWd := pg_in 95 (by decide +kernel)
theorem q_96 : Cond.code yX2_bring cX2_bring 6 (some .int) ∈ pgWd := pg_in 96 (by decide +kernel)
theorem q_97 : Cond.methodLink RX2 24 yX2_requireKeeper ∈ pgWd := pg_in 97 (by decide +kernel)
theorem q_98 : Cond.static yX2_requireKeeper ∈ pgWd := pg_in 98 (by decide +kernel)
theorem q_99 : Cond.code yX2_requireKeeper cX2_requireKeeper 1 none ∈ pgWd := pg_in 99 (by decide +kernel)
theorem q_100 : Cond.classLink RX2 184 "java/lang/IndexOutOfBoundsException" ∈ pgWd := pg_in 100 (by decide +kernel)
theorem q_101 : Cond.instantiable "java/lang/IndexOutOfBoundsException" 6 ∈ pgWd := pg_in 101 (by decide +kernel)
theorem q_140 : Cond.instantiable "java/lang/Throwable" 6 ∈ pgWd := pg_in 140 (by decide +kernel)
theorem q_143 : Cond.methodLink RX2 188 ⟨"java/lang/IndexOutOfBoundsException", "<init>", "(Ljava/lang/String;)V"⟩ ∈ pgWd := pg_in 143 (by decide +kernel)
theorem q_168 : Cond.arrayClass .byte ∈ pgWd := pg_in 168 (by decide +kernel)
theorem q_169 : Cond.classLink RX2 27 "java/lang/IllegalArgumentException" ∈ pgWd := pg_in 169 (by decide +kernel)
theorem q_170 : Cond.instantiable "java/lang/IllegalArgumentException" 6 ∈ pgWd := pg_in 170 (by decide +kernel)
theorem q_179 : Cond.methodLink RX2 31 ⟨"java/lang/IllegalArgumentException", "<init>", "(Ljava/lang/String;)V"⟩ ∈ pgWd := pg_in 179 (by decide +kernel)
theorem q_185 : Cond.classLink RX2 38 "java/lang/IllegalStateException" ∈ pgWd := pg_in 185 (by decide +kernel)
theorem q_186 : Cond.instantiable "java/lang/IllegalStateException" 6 ∈ pgWd := pg_in 186 (by decide +kernel)
theorem q_195 : Cond.methodLink RX2 42 ⟨"java/lang/IllegalStateException", "<init>", "(Ljava/lang/String;)V"⟩ ∈ pgWd := pg_in 195 (by decide +kernel)
theorem q_201 : Cond.instantiable RX1 11 ∈ pgWd := pg_in 201 (by decide +kernel)
theorem q_202 : Cond.methodLink RX2 43 yX1_init ∈ pgWd := pg_in 202 (by decide +kernel)
theorem q_203 : Cond.instanceMethod yX1_init ∈ pgWd := pg_in 203 (by decide +kernel)
theorem q_204 : Cond.code yX1_init cX1_init 3 none ∈ pgWd := pg_in 204 (by decide +kernel)
theorem q_205 : Cond.methodLink RX1 3 objectInit ∈ pgWd := pg_in 205 (by decide +kernel)
theorem q_206 : Cond.fieldLink RX1 24 "Shredroll$Disk" "kind" "I" ∈ pgWd := pg_in 206 (by decide +kernel)
theorem q_207 : Cond.fieldLink RX2 135 "Shredroll$Disk" "kind" "I" ∈ pgWd := pg_in 207 (by decide +kernel)
theorem q_208 : Cond.fieldLink RX1 27 "Shredroll$Disk" "secrecy" "I" ∈ pgWd := pg_in 208 (by decide +kernel)
theorem q_209 : Cond.fieldLink RX2 138 "Shredroll$Disk" "secrecy" "I" ∈ pgWd := pg_in 209 (by decide +kernel)
theorem q_210 : Cond.fieldLink RX2 54 "Shredroll$Disk" "keeper" "I" ∈ pgWd := pg_in 210 (by decide +kernel)
theorem q_211 : Cond.fieldLink RX2 175 "Shredroll$Disk" "loggedKeeper" "I" ∈ pgWd := pg_in 211 (by decide +kernel)
theorem q_212 : Cond.fieldLink RX1 30 "Shredroll$Disk" "crate" "LShredroll$Crate;" ∈ pgWd := pg_in 212 (by decide +kernel)
theorem q_213 : Cond.fieldLink RX2 83 "Shredroll$Disk" "crate" "LShredroll$Crate;" ∈ pgWd := pg_in 213 (by decide +kernel)
theorem q_214 : Cond.fieldLink RX1 9 "Shredroll$Disk" "offeredTo" "I" ∈ pgWd := pg_in 214 (by decide +kernel)
theorem q_215 : Cond.fieldLink RX2 63 "Shredroll$Disk" "offeredTo" "I" ∈ pgWd := pg_in 215 (by decide +kernel)
theorem q_216 : Cond.fieldLink RX1 15 "Shredroll$Disk" "state" "I" ∈ pgWd := pg_in 216 (by decide +kernel)
theorem q_217 : Cond.fieldLink RX2 130 "Shredroll$Disk" "state" "I" ∈ pgWd := pg_in 217 (by decide +kernel)
theorem q_218 : Cond.fieldLink RX1 18 "Shredroll$Disk" "doer" "I" ∈ pgWd := pg_in 218 (by decide +kernel)
theorem q_219 : Cond.fieldLink RX2 141 "Shredroll$Disk" "doer" "I" ∈ pgWd := pg_in 219 (by decide +kernel)
theorem q_220 : Cond.fieldLink RX1 43 "Shredroll$Disk" "isFoundGood" "Z" ∈ pgWd := pg_in 220 (by decide +kernel)
theorem q_221 : Cond.fieldLink RX2 144 "Shredroll$Disk" "isFoundGood" "Z" ∈ pgWd := pg_in 221 (by decide +kernel)
theorem q_222 : Cond.fieldLink RX2 66 "Shredroll$Disk" "isMissing" "Z" ∈ pgWd := pg_in 222 (by decide +kernel)
theorem q_223 : Cond.fieldLink RX1 50 "Shredroll$Disk" "isMissing" "Z" ∈ pgWd := pg_in 223 (by decide +kernel)
theorem q_224 : Cond.fieldLink RX1 21 "Shredroll$Disk" "certificate" "I" ∈ pgWd := pg_in 224 (by decide +kernel)
theorem q_225 : Cond.fieldLink RX2 167 "Shredroll$Disk" "certificate" "I" ∈ pgWd := pg_in 225 (by decide +kernel)
theorem q_249 : Cond.methodLink RX2 46 yX2_handOver ∈ pgWd := pg_in 249 (by decide +kernel)
theorem q_251 : Cond.instanceMethod yX2_handOver ∈ pgWd := pg_in 251 (by decide +kernel)
theorem q_252 : Cond.code yX2_handOver cX2_handOver 3 none ∈ pgWd := pg_in 252 (by decide +kernel)
theorem q_253 : Cond.methodLink RL 109 yL_offer ∈ pgWd := pg_in 253 (by decide +kernel)
theorem q_254 : Cond.static yL_offer ∈ pgWd := pg_in 254 (by decide +kernel)
theorem q_255 : Cond.codeWith yL_offer cL_offer 5 (some .int) [(0, 10, 13, 13), (0, 10, 17, 15), (0, 10, 21, 17)] ∈ pgWd := pg_in 255 (by decide +kernel)
theorem q_256 : Cond.methodLink RL 19 yX2_offer ∈ pgWd := pg_in 256 (by decide +kernel)
theorem q_257 : Cond.instanceMethod yX2_offer ∈ pgWd := pg_in 257 (by decide +kernel)
theorem q_258 : Cond.selects RX2 yX2_offer yX2_offer ∈ pgWd := pg_in 258 (by decide +kernel)
theorem q_259 : Cond.code yX2_offer cX2_offer 4 (some .int) ∈ pgWd := pg_in 259 (by decide +kernel)
theorem q_260 : Cond.methodLink RX2 50 yX2_findDisk ∈ pgWd := pg_in 260 (by decide +kernel)
theorem q_262 : Cond.instanceMethod yX2_findDisk ∈ pgWd := pg_in 262 (by decide +kernel)
theorem q_263 : Cond.code yX2_findDisk cX2_findDisk 3 (some (.object "Shredroll$Disk")) ∈ pgWd := pg_in 263 (by decide +kernel)
theorem q_266 : Cond.methodLink RX2 59 yX2_requireLoose ∈ pgWd := pg_in 266 (by decide +kernel)
theorem q_267 : Cond.static yX2_requireLoose ∈ pgWd := pg_in 267 (by decide +kernel)
theorem q_268 : Cond.code yX2_requireLoose cX2_requireLoose 1 none ∈ pgWd := pg_in 268 (by decide +kernel)
theorem q_270 : Cond.methodLink RL 113 yL_answer ∈ pgWd := pg_in 270 (by decide +kernel)
theorem q_271 : Cond.static yL_answer ∈ pgWd := pg_in 271 (by decide +kernel)
theorem q_272 : Cond.codeWith yL_answer cL_answer 5 (some .int) [(0, 10, 13, 13), (0, 10, 17, 17)] ∈ pgWd := pg_in 272 (by decide +kernel)
theorem q_273 : Cond.methodLink RL 23 yX2_answer ∈ pgWd := pg_in 273 (by decide +kernel)
theorem q_274 : Cond.instanceMethod yX2_answer ∈ pgWd := pg_in 274 (by decide +kernel)
theorem q_275 : Cond.selects RX2 yX2_answer yX2_answer ∈ pgWd := pg_in 275 (by decide +kernel)
theorem q_276 : Cond.code yX2_answer cX2_answer 5 (some .int) ∈ pgWd := pg_in 276 (by decide +kernel)
theorem q_278 : Cond.methodLink RL 117 yL_pack ∈ pgWd := pg_in 278 (by decide +kernel)
theorem q_279 : Cond.static yL_pack ∈ pgWd := pg_in 279 (by decide +kernel)
theorem q_280 : Cond.codeWith yL_pack cL_pack 5 (some .int) [(0, 10, 13, 13), (0, 10, 17, 17)] ∈ pgWd := pg_in 280 (by decide +kernel)
theorem q_281 : Cond.methodLink RL 27 yX2_pack ∈ pgWd := pg_in 281 (by decide +kernel)
theorem q_282 : Cond.instanceMethod yX2_pack ∈ pgWd := pg_in 282 (by decide +kernel)
theorem q_283 : Cond.selects RX2 yX2_pack yX2_pack ∈ pgWd := pg_in 283 (by decide +kernel)
theorem q_284 : Cond.code yX2_pack cX2_pack 5 (some .int) ∈ pgWd := pg_in 284 (by decide +kernel)
theorem q_285 : Cond.methodLink RX2 72 yX2_findCrate ∈ pgWd := pg_in 285 (by decide +kernel)
theorem q_287 : Cond.instanceMethod yX2_findCrate ∈ pgWd := pg_in 287 (by decide +kernel)
theorem q_288 : Cond.code yX2_findCrate cX2_findCrate 3 (some (.object "Shredroll$Crate")) ∈ pgWd := pg_in 288 (by decide +kernel)
theorem q_290 : Cond.methodLink RX2 76 yX0_isSealed ∈ pgWd := pg_in 290 (by decide +kernel)
theorem q_291 : Cond.instanceMethod yX0_isSealed ∈ pgWd := pg_in 291 (by decide +kernel)
theorem q_292 : Cond.selects RX0 yX0_isSealed yX0_isSealed ∈ pgWd := pg_in 292 (by decide +kernel)
theorem q_293 : Cond.code yX0_isSealed cX0_isSealed 1 (some .boolean) ∈ pgWd := pg_in 293 (by decide +kernel)
theorem q_295 : Cond.methodLink RX2 87 yX2_countDisksIn ∈ pgWd := pg_in 295 (by decide +kernel)
theorem q_297 : Cond.instanceMethod yX2_countDisksIn ∈ pgWd := pg_in 297 (by decide +kernel)
theorem q_298 : Cond.code yX2_countDisksIn cX2_countDisksIn 7 (some .int) ∈ pgWd := pg_in 298 (by decide +kernel)
theorem q_299 : Cond.methodLink RX2 157 yX1_crateNumber ∈ pgWd := pg_in 299 (by decide +kernel)
theorem q_300 : Cond.instanceMethod yX1_crateNumber ∈ pgWd := pg_in 300 (by decide +kernel)
theorem q_301 : Cond.selects RX1 yX1_crateNumber yX1_crateNumber ∈ pgWd := pg_in 301 (by decide +kernel)
theorem q_302 : Cond.code yX1_crateNumber cX1_crateNumber 1 (some .int) ∈ pgWd := pg_in 302 (by decide +kernel)
theorem q_303 : Cond.methodLink RL 120 yL_unpack ∈ pgWd := pg_in 303 (by decide +kernel)
theorem q_304 : Cond.static yL_unpack ∈ pgWd := pg_in 304 (by decide +kernel)
theorem q_305 : Cond.codeWith yL_unpack cL_unpack 4 (some .int) [(0, 9, 12, 13), (0, 9, 15, 17)] ∈ pgWd := pg_in 305 (by decide +kernel)
theorem q_306 : Cond.methodLink RL 30 yX2_unpack ∈ pgWd := pg_in 306 (by decide +kernel)
theorem q_307 : Cond.instanceMethod yX2_unpack ∈ pgWd := pg_in 307 (by decide +kernel)
theorem q_308 : Cond.selects RX2 yX2_unpack yX2_unpack ∈ pgWd := pg_in 308 (by decide +kernel)
theorem q_309 : Cond.code yX2_unpack cX2_unpack 4 (some .int) ∈ pgWd := pg_in 309 (by decide +kernel)
theorem q_311 : Cond.methodLink RL 124 yL_seal ∈ pgWd := pg_in 311 (by decide +kernel)
theorem q_312 : Cond.static yL_seal ∈ pgWd := pg_in 312 (by decide +kernel)
theorem q_313 : Cond.codeWith yL_seal cL_seal 4 (some .int) [(0, 9, 12, 13), (0, 9, 15, 17)] ∈ pgWd := pg_in 313 (by decide +kernel)
theorem q_314 : Cond.methodLink RL 34 yX2_seal ∈ pgWd := pg_in 314 (by decide +kernel)
theorem q_315 : Cond.instanceMethod yX2_seal ∈ pgWd := pg_in 315 (by decide +kernel)
theorem q_316 : Cond.selects RX2 yX2_seal yX2_seal ∈ pgWd := pg_in 316 (by decide +kernel)
theorem q_317 : Cond.code yX2_seal cX2_seal 3 (some .int) ∈ pgWd := pg_in 317 (by decide +kernel)
theorem q_319 : Cond.methodLink RL 127 yL_open ∈ pgWd := pg_in 319 (by decide +kernel)
theorem q_320 : Cond.static yL_open ∈ pgWd := pg_in 320 (by decide +kernel)
theorem q_321 : Cond.codeWith yL_open cL_open 5 (some .int) [(0, 10, 13, 13), (0, 10, 17, 15), (0, 10, 21, 17)] ∈ pgWd := pg_in 321 (by decide +kernel)
theorem q_322 : Cond.methodLink RL 37 yX2_open ∈ pgWd := pg_in 322 (by decide +kernel)
theorem q_323 : Cond.instanceMethod yX2_open ∈ pgWd := pg_in 323 (by decide +kernel)
theorem q_324 : Cond.selects RX2 yX2_open yX2_open ∈ pgWd := pg_in 324 (by decide +kernel)
theorem q_325 : Cond.code yX2_open cX2_open 5 (some .int) ∈ pgWd := pg_in 325 (by decide +kernel)
theorem q_328 : Cond.methodLink RL 130 yL_carry ∈ pgWd := pg_in 328 (by decide +kernel)
theorem q_329 : Cond.static yL_carry ∈ pgWd := pg_in 329 (by decide +kernel)
theorem q_330 : Cond.codeWith yL_carry cL_carry 5 (some .int) [(0, 10, 13, 13), (0, 10, 17, 15), (0, 10, 21, 17)] ∈ pgWd := pg_in 330 (by decide +kernel)
theorem q_331 : Cond.methodLink RL 40 yX2_carry ∈ pgWd := pg_in 331 (by decide +kernel)
theorem q_332 : Cond.instanceMethod yX2_carry ∈ pgWd := pg_in 332 (by decide +kernel)
theorem q_333 : Cond.selects RX2 yX2_carry yX2_carry ∈ pgWd := pg_in 333 (by decide +kernel)
theorem q_334 : Cond.code yX2_carry cX2_carry 5 (some .int) ∈ pgWd := pg_in 334 (by decide +kernel)
theorem q_337 : Cond.methodLink RX2 118 yX2_handOverDisksIn ∈ pgWd := pg_in 337 (by decide +kernel)
theorem q_339 : Cond.instanceMethod yX2_handOverDisksIn ∈ pgWd := pg_in 339 (by decide +kernel)
theorem q_340 : Cond.code yX2_handOverDisksIn cX2_handOverDisksIn 6 none ∈ pgWd := pg_in 340 (by decide +kernel)
theorem q_341 : Cond.methodLink RL 133 yL_wipe ∈ pgWd := pg_in 341 (by decide +kernel)
theorem q_342 : Cond.static yL_wipe ∈ pgWd := pg_in 342 (by decide +kernel)
theorem q_343 : Cond.codeWith yL_wipe cL_wipe 6 (some .int) [(0, 12, 15, 13), (0, 12, 19, 15), (0, 12, 23, 17)] ∈ pgWd := pg_in 343 (by decide +kernel)
theorem q_344 : Cond.methodLink RL 43 yX2_wipe ∈ pgWd := pg_in 344 (by decide +kernel)
theorem q_345 : Cond.instanceMethod yX2_wipe ∈ pgWd := pg_in 345 (by decide +kernel)
theorem q_346 : Cond.selects RX2 yX2_wipe yX2_wipe ∈ pgWd := pg_in 346 (by decide +kernel)
theorem q_347 : Cond.code yX2_wipe cX2_wipe 6 (some .int) ∈ pgWd := pg_in 347 (by decide +kernel)
theorem q_349 : Cond.methodLink RX2 124 yX2_requireWitnessIsNotKeeper ∈ pgWd := pg_in 349 (by decide +kernel)
theorem q_350 : Cond.static yX2_requireWitnessIsNotKeeper ∈ pgWd := pg_in 350 (by decide +kernel)
theorem q_351 : Cond.code yX2_requireWitnessIsNotKeeper cX2_requireWitnessIsNotKeeper 2 none ∈ pgWd := pg_in 351 (by decide +kernel)
theorem q_353 : Cond.methodLink RX2 127 yX2_requireWithinReach ∈ pgWd := pg_in 353 (by decide +kernel)
theorem q_354 : Cond.static yX2_requireWithinReach ∈ pgWd := pg_in 354 (by decide +kernel)
theorem q_355 : Cond.code yX2_requireWithinReach cX2_requireWithinReach 1 none ∈ pgWd := pg_in 355 (by decide +kernel)
theorem q_356 : Cond.methodLink RX2 195 yX1_isSealedIn ∈ pgWd := pg_in 356 (by decide +kernel)
theorem q_357 : Cond.instanceMethod yX1_isSealedIn ∈ pgWd := pg_in 357 (by decide +kernel)
theorem q_358 : Cond.selects RX1 yX1_isSealedIn yX1_isSealedIn ∈ pgWd := pg_in 358 (by decide +kernel)
theorem q_359 : Cond.code yX1_isSealedIn cX1_isSealedIn 1 (some .boolean) ∈ pgWd := pg_in 359 (by decide +kernel)
theorem q_360 : Cond.methodLink RX1 39 yX0_isSealed ∈ pgWd := pg_in 360 (by decide +kernel)
theorem q_363 : Cond.methodLink RL 136 yL_smash ∈ pgWd := pg_in 363 (by decide +kernel)
theorem q_364 : Cond.static yL_smash ∈ pgWd := pg_in 364 (by decide +kernel)
theorem q_365 : Cond.codeWith yL_smash cL_smash 5 (some .int) [(0, 10, 13, 13), (0, 10, 17, 15), (0, 10, 21, 17)] ∈ pgWd := pg_in 365 (by decide +kernel)
theorem q_366 : Cond.methodLink RL 46 yX2_smash ∈ pgWd := pg_in 366 (by decide +kernel)
theorem q_367 : Cond.instanceMethod yX2_smash ∈ pgWd := pg_in 367 (by decide +kernel)
theorem q_368 : Cond.selects RX2 yX2_smash yX2_smash ∈ pgWd := pg_in 368 (by decide +kernel)
theorem q_369 : Cond.code yX2_smash cX2_smash 5 (some .int) ∈ pgWd := pg_in 369 (by decide +kernel)
theorem q_371 : Cond.methodLink RL 139 yL_check ∈ pgWd := pg_in 371 (by decide +kernel)
theorem q_372 : Cond.static yL_check ∈ pgWd := pg_in 372 (by decide +kernel)
theorem q_373 : Cond.codeWith yL_check cL_check 6 (some .int) [(0, 12, 15, 13), (0, 12, 19, 15), (0, 12, 23, 17)] ∈ pgWd := pg_in 373 (by decide +kernel)
theorem q_374 : Cond.methodLink RL 49 yX2_check ∈ pgWd := pg_in 374 (by decide +kernel)
theorem q_375 : Cond.instanceMethod yX2_check ∈ pgWd := pg_in 375 (by decide +kernel)
theorem q_376 : Cond.selects RX2 yX2_check yX2_check ∈ pgWd := pg_in 376 (by decide +kernel)
theorem q_377 : Cond.code yX2_check cX2_check 5 (some .int) ∈ pgWd := pg_in 377 (by decide +kernel)
theorem q_380 : Cond.methodLink RL 143 yL_lose ∈ pgWd := pg_in 380 (by decide +kernel)
theorem q_381 : Cond.static yL_lose ∈ pgWd := pg_in 381 (by decide +kernel)
theorem q_382 : Cond.codeWith yL_lose cL_lose 4 (some .int) [(0, 9, 12, 13), (0, 9, 15, 17)] ∈ pgWd := pg_in 382 (by decide +kernel)
theorem q_383 : Cond.methodLink RL 53 yX2_lose ∈ pgWd := pg_in 383 (by decide +kernel)
theorem q_384 : Cond.instanceMethod yX2_lose ∈ pgWd := pg_in 384 (by decide +kernel)
theorem q_385 : Cond.selects RX2 yX2_lose yX2_lose ∈ pgWd := pg_in 385 (by decide +kernel)
theorem q_386 : Cond.code yX2_lose cX2_lose 3 (some .int) ∈ pgWd := pg_in 386 (by decide +kernel)
theorem q_388 : Cond.methodLink RL 146 yL_find ∈ pgWd := pg_in 388 (by decide +kernel)
theorem q_389 : Cond.static yL_find ∈ pgWd := pg_in 389 (by decide +kernel)
theorem q_390 : Cond.codeWith yL_find cL_find 4 (some .int) [(0, 9, 12, 13), (0, 9, 15, 17)] ∈ pgWd := pg_in 390 (by decide +kernel)
theorem q_391 : Cond.methodLink RL 56 yX2_find ∈ pgWd := pg_in 391 (by decide +kernel)
theorem q_392 : Cond.instanceMethod yX2_find ∈ pgWd := pg_in 392 (by decide +kernel)
theorem q_393 : Cond.selects RX2 yX2_find yX2_find ∈ pgWd := pg_in 393 (by decide +kernel)
theorem q_394 : Cond.code yX2_find cX2_find 3 (some .int) ∈ pgWd := pg_in 394 (by decide +kernel)
theorem q_396 : Cond.methodLink RL 149 yL_certify ∈ pgWd := pg_in 396 (by decide +kernel)
theorem q_397 : Cond.static yL_certify ∈ pgWd := pg_in 397 (by decide +kernel)
theorem q_398 : Cond.codeWith yL_certify cL_certify 4 (some .int) [(0, 9, 12, 13), (0, 9, 15, 62)] ∈ pgWd := pg_in 398 (by decide +kernel)
theorem q_399 : Cond.classLink RL 62 "java/util/NoSuchElementException" ∈ pgWd := pg_in 399 (by decide +kernel)
theorem q_400 : Cond.methodLink RL 59 yX2_certify ∈ pgWd := pg_in 400 (by decide +kernel)
theorem q_401 : Cond.instanceMethod yX2_certify ∈ pgWd := pg_in 401 (by decide +kernel)
theorem q_402 : Cond.selects RX2 yX2_certify yX2_certify ∈ pgWd := pg_in 402 (by decide +kernel)
theorem q_403 : Cond.code yX2_certify cX2_certify 7 (some .int) ∈ pgWd := pg_in 403 (by decide +kernel)
theorem q_404 : Cond.methodLink RX2 161 yX1_awaitsCertificate ∈ pgWd := pg_in 404 (by decide +kernel)
theorem q_405 : Cond.instanceMethod yX1_awaitsCertificate ∈ pgWd := pg_in 405 (by decide +kernel)
theorem q_406 : Cond.selects RX1 yX1_awaitsCertificate yX1_awaitsCertificate ∈ pgWd := pg_in 406 (by decide +kernel)
theorem q_407 : Cond.code yX1_awaitsCertificate cX1_awaitsCertificate 1 (some .boolean) ∈ pgWd := pg_in 407 (by decide +kernel)
theorem q_408 : Cond.methodLink RX1 47 yX1_isFinished ∈ pgWd := pg_in 408 (by decide +kernel)
theorem q_409 : Cond.instanceMethod yX1_isFinished ∈ pgWd := pg_in 409 (by decide +kernel)
theorem q_410 : Cond.selects RX1 yX1_isFinished yX1_isFinished ∈ pgWd := pg_in 410 (by decide +kernel)
theorem q_411 : Cond.code yX1_isFinished cX1_isFinished 1 (some .boolean) ∈ pgWd := pg_in 411 (by decide +kernel)
theorem q_412 : Cond.classLink RX2 170 "java/util/NoSuchElementException" ∈ pgWd := pg_in 412 (by decide +kernel)
theorem q_413 : Cond.instantiable "java/util/NoSuchElementException" 6 ∈ pgWd := pg_in 413 (by decide +kernel)
theorem q_422 : Cond.methodLink RX2 174 ⟨"java/util/NoSuchElementException", "<init>", "(Ljava/lang/String;)V"⟩ ∈ pgWd := pg_in 422 (by decide +kernel)
theorem q_428 : Cond.methodLink RL 156 yL_keeperOf ∈ pgWd := pg_in 428 (by decide +kernel)
theorem q_429 : Cond.static yL_keeperOf ∈ pgWd := pg_in 429 (by decide +kernel)
theorem q_430 : Cond.codeWith yL_keeperOf cL_keeperOf 4 (some .int) [(0, 9, 12, 13)] ∈ pgWd := pg_in 430 (by decide +kernel)
theorem q_431 : Cond.methodLink RL 64 yX2_keeperOf ∈ pgWd := pg_in 431 (by decide +kernel)
theorem q_432 : Cond.instanceMethod yX2_keeperOf ∈ pgWd := pg_in 432 (by decide +kernel)
theorem q_433 : Cond.selects RX2 yX2_keeperOf yX2_keeperOf ∈ pgWd := pg_in 433 (by decide +kernel)
theorem q_434 : Cond.code yX2_keeperOf cX2_keeperOf 2 (some .int) ∈ pgWd := pg_in 434 (by decide +kernel)
theorem q_435 : Cond.methodLink RL 159 yL_keeperByLog ∈ pgWd := pg_in 435 (by decide +kernel)
theorem q_436 : Cond.static yL_keeperByLog ∈ pgWd := pg_in 436 (by decide +kernel)
theorem q_437 : Cond.codeWith yL_keeperByLog cL_keeperByLog 4 (some .int) [(0, 9, 12, 13)] ∈ pgWd := pg_in 437 (by decide +kernel)
theorem q_438 : Cond.methodLink RL 67 yX2_keeperByLog ∈ pgWd := pg_in 438 (by decide +kernel)
theorem q_439 : Cond.instanceMethod yX2_keeperByLog ∈ pgWd := pg_in 439 (by decide +kernel)
theorem q_440 : Cond.selects RX2 yX2_keeperByLog yX2_keeperByLog ∈ pgWd := pg_in 440 (by decide +kernel)
theorem q_441 : Cond.code yX2_keeperByLog cX2_keeperByLog 2 (some .int) ∈ pgWd := pg_in 441 (by decide +kernel)
theorem q_442 : Cond.methodLink RL 162 yL_crateOf ∈ pgWd := pg_in 442 (by decide +kernel)
theorem q_443 : Cond.static yL_crateOf ∈ pgWd := pg_in 443 (by decide +kernel)
theorem q_444 : Cond.codeWith yL_crateOf cL_crateOf 4 (some .int) [(0, 9, 12, 13)] ∈ pgWd := pg_in 444 (by decide +kernel)
theorem q_445 : Cond.methodLink RL 70 yX2_crateOf ∈ pgWd := pg_in 445 (by decide +kernel)
theorem q_446 : Cond.instanceMethod yX2_crateOf ∈ pgWd := pg_in 446 (by decide +kernel)
theorem q_447 : Cond.selects RX2 yX2_crateOf yX2_crateOf ∈ pgWd := pg_in 447 (by decide +kernel)
theorem q_448 : Cond.code yX2_crateOf cX2_crateOf 2 (some .int) ∈ pgWd := pg_in 448 (by decide +kernel)
theorem q_449 : Cond.methodLink RL 165 yL_stateOf ∈ pgWd := pg_in 449 (by decide +kernel)
theorem q_450 : Cond.static yL_stateOf ∈ pgWd := pg_in 450 (by decide +kernel)
theorem q_451 : Cond.codeWith yL_stateOf cL_stateOf 4 (some .int) [(0, 9, 12, 13)] ∈ pgWd := pg_in 451 (by decide +kernel)
theorem q_452 : Cond.methodLink RL 73 yX2_stateOf ∈ pgWd := pg_in 452 (by decide +kernel)
theorem q_453 : Cond.instanceMethod yX2_stateOf ∈ pgWd := pg_in 453 (by decide +kernel)
theorem q_454 : Cond.selects RX2 yX2_stateOf yX2_stateOf ∈ pgWd := pg_in 454 (by decide +kernel)
theorem q_455 : Cond.code yX2_stateOf cX2_stateOf 2 (some .int) ∈ pgWd := pg_in 455 (by decide +kernel)
theorem q_456 : Cond.methodLink RL 168 yL_isDone ∈ pgWd := pg_in 456 (by decide +kernel)
theorem q_457 : Cond.static yL_isDone ∈ pgWd := pg_in 457 (by decide +kernel)
theorem q_458 : Cond.codeWith yL_isDone cL_isDone 4 (some .int) [(0, 16, 19, 13)] ∈ pgWd := pg_in 458 (by decide +kernel)
theorem q_459 : Cond.methodLink RL 76 yX2_isDone ∈ pgWd := pg_in 459 (by decide +kernel)
theorem q_460 : Cond.instanceMethod yX2_isDone ∈ pgWd := pg_in 460 (by decide +kernel)
theorem q_461 : Cond.selects RX2 yX2_isDone yX2_isDone ∈ pgWd := pg_in 461 (by decide +kernel)
theorem q_462 : Cond.code yX2_isDone cX2_isDone 2 (some .boolean) ∈ pgWd := pg_in 462 (by decide +kernel)
theorem q_463 : Cond.methodLink RX2 178 yX1_isFinished ∈ pgWd := pg_in 463 (by decide +kernel)
theorem q_464 : Cond.methodLink RL 171 yL_offeredTo ∈ pgWd := pg_in 464 (by decide +kernel)
theorem q_465 : Cond.static yL_offeredTo ∈ pgWd := pg_in 465 (by decide +kernel)
theorem q_466 : Cond.codeWith yL_offeredTo cL_offeredTo 4 (some .int) [(0, 9, 12, 13)] ∈ pgWd := pg_in 466 (by decide +kernel)
theorem q_467 : Cond.methodLink RL 80 yX2_offeredTo ∈ pgWd := pg_in 467 (by decide +kernel)
theorem q_468 : Cond.instanceMethod yX2_offeredTo ∈ pgWd := pg_in 468 (by decide +kernel)
theorem q_469 : Cond.selects RX2 yX2_offeredTo yX2_offeredTo ∈ pgWd := pg_in 469 (by decide +kernel)
theorem q_470 : Cond.code yX2_offeredTo cX2_offeredTo 2 (some .int) ∈ pgWd := pg_in 470 (by decide +kernel)
theorem q_471 : Cond.methodLink RL 174 yL_certificateOf ∈ pgWd := pg_in 471 (by decide +kernel)
theorem q_472 : Cond.static yL_certificateOf ∈ pgWd := pg_in 472 (by decide +kernel)
theorem q_473 : Cond.codeWith yL_certificateOf cL_certificateOf 4 (some .int) [(0, 9, 12, 13)] ∈ pgWd := pg_in 473 (by decide +kernel)
theorem q_474 : Cond.methodLink RL 83 yX2_certificateOf ∈ pgWd := pg_in 474 (by decide +kernel)
theorem q_475 : Cond.instanceMethod yX2_certificateOf ∈ pgWd := pg_in 475 (by decide +kernel)
theorem q_476 : Cond.selects RX2 yX2_certificateOf yX2_certificateOf ∈ pgWd := pg_in 476 (by decide +kernel)
theorem q_477 : Cond.code yX2_certificateOf cX2_certificateOf 2 (some .int) ∈ pgWd := pg_in 477 (by decide +kernel)
theorem q_478 : Cond.methodLink RL 177 yL_crateKeeper ∈ pgWd := pg_in 478 (by decide +kernel)
theorem q_479 : Cond.static yL_crateKeeper ∈ pgWd := pg_in 479 (by decide +kernel)
theorem q_480 : Cond.codeWith yL_crateKeeper cL_crateKeeper 4 (some .int) [(0, 9, 12, 13)] ∈ pgWd := pg_in 480 (by decide +kernel)
theorem q_481 : Cond.methodLink RL 86 yX2_crateKeeper ∈ pgWd := pg_in 481 (by decide +kernel)
theorem q_482 : Cond.instanceMethod yX2_crateKeeper ∈ pgWd := pg_in 482 (by decide +kernel)
theorem q_483 : Cond.selects RX2 yX2_crateKeeper yX2_crateKeeper ∈ pgWd := pg_in 483 (by decide +kernel)
theorem q_484 : Cond.code yX2_crateKeeper cX2_crateKeeper 2 (some .int) ∈ pgWd := pg_in 484 (by decide +kernel)
theorem q_485 : Cond.methodLink RL 180 yL_sealOf ∈ pgWd := pg_in 485 (by decide +kernel)
theorem q_486 : Cond.static yL_sealOf ∈ pgWd := pg_in 486 (by decide +kernel)
theorem q_487 : Cond.codeWith yL_sealOf cL_sealOf 4 (some .int) [(0, 9, 12, 13)] ∈ pgWd := pg_in 487 (by decide +kernel)
theorem q_488 : Cond.methodLink RL 89 yX2_sealOf ∈ pgWd := pg_in 488 (by decide +kernel)
theorem q_489 : Cond.instanceMethod yX2_sealOf ∈ pgWd := pg_in 489 (by decide +kernel)
theorem q_490 : Cond.selects RX2 yX2_sealOf yX2_sealOf ∈ pgWd := pg_in 490 (by decide +kernel)
theorem q_491 : Cond.code yX2_sealOf cX2_sealOf 2 (some .int) ∈ pgWd := pg_in 491 (by decide +kernel)
theorem q_492 : Cond.methodLink RL 183 yL_has ∈ pgWd := pg_in 492 (by decide +kernel)
theorem q_493 : Cond.static yL_has ∈ pgWd := pg_in 493 (by decide +kernel)
theorem q_494 : Cond.codeWith yL_has cL_has 4 (some .int) [(0, 9, 12, 13)] ∈ pgWd := pg_in 494 (by decide +kernel)
theorem q_495 : Cond.methodLink RL 92 yX2_has ∈ pgWd := pg_in 495 (by decide +kernel)
theorem q_496 : Cond.instanceMethod yX2_has ∈ pgWd := pg_in 496 (by decide +kernel)
theorem q_497 : Cond.selects RX2 yX2_has yX2_has ∈ pgWd := pg_in 497 (by decide +kernel)
theorem q_498 : Cond.code yX2_has cX2_has 7 (some .int) ∈ pgWd := pg_in 498 (by decide +kernel)
theorem q_499 : Cond.classLink RL 96 RX3 ∈ pgWd := pg_in 499 (by decide +kernel)
theorem q_500 : Cond.instantiable RX3 19 ∈ pgWd := pg_in 500 (by decide +kernel)
theorem q_501 : Cond.methodLink RL 98 yX3_init ∈ pgWd := pg_in 501 (by decide +kernel)
theorem q_502 : Cond.instanceMethod yX3_init ∈ pgWd := pg_in 502 (by decide +kernel)
theorem q_503 : Cond.code yX3_init cX3_init 2 none ∈ pgWd := pg_in 503 (by decide +kernel)
theorem q_504 : Cond.methodLink RX3 1 objectInit ∈ pgWd := pg_in 504 (by decide +kernel)
theorem q_505 : Cond.fieldLink RX3 54 "ShredrollModel" "disks" "I" ∈ pgWd := pg_in 505 (by decide +kernel)
theorem q_506 : Cond.fieldLink RX3 7 "ShredrollModel" "kind" "[I" ∈ pgWd := pg_in 506 (by decide +kernel)
theorem q_507 : Cond.fieldLink RX3 13 "ShredrollModel" "secrecy" "[I" ∈ pgWd := pg_in 507 (by decide +kernel)
theorem q_508 : Cond.fieldLink RX3 16 "ShredrollModel" "keeper" "[I" ∈ pgWd := pg_in 508 (by decide +kernel)
theorem q_509 : Cond.fieldLink RX3 19 "ShredrollModel" "crate" "[I" ∈ pgWd := pg_in 509 (by decide +kernel)
theorem q_510 : Cond.fieldLink RX3 22 "ShredrollModel" "state" "[I" ∈ pgWd := pg_in 510 (by decide +kernel)
theorem q_511 : Cond.fieldLink RX3 25 "ShredrollModel" "isMissing" "[Z" ∈ pgWd := pg_in 511 (by decide +kernel)
theorem q_512 : Cond.fieldLink RX3 29 "ShredrollModel" "offered" "[I" ∈ pgWd := pg_in 512 (by decide +kernel)
theorem q_513 : Cond.fieldLink RX3 32 "ShredrollModel" "doer" "[I" ∈ pgWd := pg_in 513 (by decide +kernel)
theorem q_514 : Cond.fieldLink RX3 35 "ShredrollModel" "isChecked" "[Z" ∈ pgWd := pg_in 514 (by decide +kernel)
theorem q_515 : Cond.fieldLink RX3 38 "ShredrollModel" "certificate" "[I" ∈ pgWd := pg_in 515 (by decide +kernel)
theorem q_516 : Cond.fieldLink RX3 41 "ShredrollModel" "crateKeeper" "[I" ∈ pgWd := pg_in 516 (by decide +kernel)
theorem q_517 : Cond.fieldLink RX3 44 "ShredrollModel" "seal" "[I" ∈ pgWd := pg_in 517 (by decide +kernel)
theorem q_518 : Cond.fieldLink RX3 47 "ShredrollModel" "remembered" "[I" ∈ pgWd := pg_in 518 (by decide +kernel)
theorem q_519 : Cond.fieldLink RX3 87 "ShredrollModel" "seals" "I" ∈ pgWd := pg_in 519 (by decide +kernel)
theorem q_520 : Cond.fieldLink RX3 90 "ShredrollModel" "odd" "I" ∈ pgWd := pg_in 520 (by decide +kernel)
theorem q_521 : Cond.fieldLink RX3 71 "ShredrollModel" "entries" "I" ∈ pgWd := pg_in 521 (by decide +kernel)
theorem q_522 : Cond.fieldLink RX3 96 "ShredrollModel" "certificates" "I" ∈ pgWd := pg_in 522 (by decide +kernel)
theorem q_523 : Cond.fieldLink RX3 50 "ShredrollModel" "thrown" "I" ∈ pgWd := pg_in 523 (by decide +kernel)
theorem q_563 : Cond.arrayClass .int ∈ pgWd := pg_in 563 (by decide +kernel)
theorem q_564 : Cond.arrayClass .boolean ∈ pgWd := pg_in 564 (by decide +kernel)
theorem q_565 : Cond.methodLink RL 105 yX3_thrown ∈ pgWd := pg_in 565 (by decide +kernel)
theorem q_566 : Cond.instanceMethod yX3_thrown ∈ pgWd := pg_in 566 (by decide +kernel)
theorem q_567 : Cond.selects RX3 yX3_thrown yX3_thrown ∈ pgWd := pg_in 567 (by decide +kernel)
theorem q_568 : Cond.code yX3_thrown cX3_thrown 1 (some .int) ∈ pgWd := pg_in 568 (by decide +kernel)
theorem q_569 : Cond.methodLink RL 104 yX3_bring ∈ pgWd := pg_in 569 (by decide +kernel)
theorem q_570 : Cond.instanceMethod yX3_bring ∈ pgWd := pg_in 570 (by decide +kernel)
theorem q_571 : Cond.selects RX3 yX3_bring yX3_bring ∈ pgWd := pg_in 571 (by decide +kernel)
theorem q_572 : Cond.code yX3_bring cX3_bring 5 (some .int) ∈ pgWd := pg_in 572 (by decide +kernel)
theorem q_573 : Cond.methodLink RX3 57 yX3_isIn ∈ pgWd := pg_in 573 (by decide +kernel)
theorem q_574 : Cond.static yX3_isIn ∈ pgWd := pg_in 574 (by decide +kernel)
theorem q_575 : Cond.code yX3_isIn cX3_isIn 3 (some .boolean) ∈ pgWd := pg_in 575 (by decide +kernel)
theorem q_576 : Cond.methodLink RX3 65 yX3_isKeeper ∈ pgWd := pg_in 576 (by decide +kernel)
theorem q_577 : Cond.static yX3_isKeeper ∈ pgWd := pg_in 577 (by decide +kernel)
theorem q_578 : Cond.code yX3_isKeeper cX3_isKeeper 1 (some .boolean) ∈ pgWd := pg_in 578 (by decide +kernel)
theorem q_579 : Cond.methodLink RX3 68 yX3_can ∈ pgWd := pg_in 579 (by decide +kernel)
theorem q_581 : Cond.instanceMethod yX3_can ∈ pgWd := pg_in 581 (by decide +kernel)
theorem q_582 : Cond.code yX3_can cX3_can 2 (some .boolean) ∈ pgWd := pg_in 582 (by decide +kernel)
theorem q_583 : Cond.methodLink RL 112 yX3_offer ∈ pgWd := pg_in 583 (by decide +kernel)
theorem q_584 : Cond.instanceMethod yX3_offer ∈ pgWd := pg_in 584 (by decide +kernel)
theorem q_585 : Cond.selects RX3 yX3_offer yX3_offer ∈ pgWd := pg_in 585 (by decide +kernel)
theorem q_586 : Cond.code yX3_offer cX3_offer 3 (some .int) ∈ pgWd := pg_in 586 (by decide +kernel)
theorem q_587 : Cond.methodLink RX3 74 yX3_isDisk ∈ pgWd := pg_in 587 (by decide +kernel)
theorem q_589 : Cond.instanceMethod yX3_isDisk ∈ pgWd := pg_in 589 (by decide +kernel)
theorem q_590 : Cond.code yX3_isDisk cX3_isDisk 2 (some .boolean) ∈ pgWd := pg_in 590 (by decide +kernel)
theorem q_591 : Cond.methodLink RX3 77 yX3_isBarred ∈ pgWd := pg_in 591 (by decide +kernel)
theorem q_593 : Cond.instanceMethod yX3_isBarred ∈ pgWd := pg_in 593 (by decide +kernel)
theorem q_594 : Cond.code yX3_isBarred cX3_isBarred 2 (some .boolean) ∈ pgWd := pg_in 594 (by decide +kernel)
theorem q_595 : Cond.methodLink RX3 61 yX3_isShut ∈ pgWd := pg_in 595 (by decide +kernel)
theorem q_597 : Cond.instanceMethod yX3_isShut ∈ pgWd := pg_in 597 (by decide +kernel)
theorem q_598 : Cond.code yX3_isShut cX3_isShut 2 (some .boolean) ∈ pgWd := pg_in 598 (by decide +kernel)
theorem q_599 : Cond.methodLink RL 116 yX3_answer ∈ pgWd := pg_in 599 (by decide +kernel)
theorem q_600 : Cond.instanceMethod yX3_answer ∈ pgWd := pg_in 600 (by decide +kernel)
theorem q_601 : Cond.selects RX3 yX3_answer yX3_answer ∈ pgWd := pg_in 601 (by decide +kernel)
theorem q_602 : Cond.code yX3_answer cX3_answer 3 (some .int) ∈ pgWd := pg_in 602 (by decide +kernel)
theorem q_603 : Cond.methodLink RL 119 yX3_pack ∈ pgWd := pg_in 603 (by decide +kernel)
theorem q_604 : Cond.instanceMethod yX3_pack ∈ pgWd := pg_in 604 (by decide +kernel)
theorem q_605 : Cond.selects RX3 yX3_pack yX3_pack ∈ pgWd := pg_in 605 (by decide +kernel)
theorem q_606 : Cond.code yX3_pack cX3_pack 5 (some .int) ∈ pgWd := pg_in 606 (by decide +kernel)
theorem q_607 : Cond.methodLink RX3 80 yX3_isCrate ∈ pgWd := pg_in 607 (by decide +kernel)
theorem q_608 : Cond.static yX3_isCrate ∈ pgWd := pg_in 608 (by decide +kernel)
theorem q_609 : Cond.code yX3_isCrate cX3_isCrate 1 (some .boolean) ∈ pgWd := pg_in 609 (by decide +kernel)
theorem q_610 : Cond.methodLink RX3 83 yX3_countIn ∈ pgWd := pg_in 610 (by decide +kernel)
theorem q_612 : Cond.instanceMethod yX3_countIn ∈ pgWd := pg_in 612 (by decide +kernel)
theorem q_613 : Cond.code yX3_countIn cX3_countIn 4 (some .int) ∈ pgWd := pg_in 613 (by decide +kernel)
theorem q_614 : Cond.methodLink RL 123 yX3_unpack ∈ pgWd := pg_in 614 (by decide +kernel)
theorem q_615 : Cond.instanceMethod yX3_unpack ∈ pgWd := pg_in 615 (by decide +kernel)
theorem q_616 : Cond.selects RX3 yX3_unpack yX3_unpack ∈ pgWd := pg_in 616 (by decide +kernel)
theorem q_617 : Cond.code yX3_unpack cX3_unpack 3 (some .int) ∈ pgWd := pg_in 617 (by decide +kernel)
theorem q_618 : Cond.methodLink RL 126 yX3_seal ∈ pgWd := pg_in 618 (by decide +kernel)
theorem q_619 : Cond.instanceMethod yX3_seal ∈ pgWd := pg_in 619 (by decide +kernel)
theorem q_620 : Cond.selects RX3 yX3_seal yX3_seal ∈ pgWd := pg_in 620 (by decide +kernel)
theorem q_621 : Cond.code yX3_seal cX3_seal 2 (some .int) ∈ pgWd := pg_in 621 (by decide +kernel)
theorem q_622 : Cond.methodLink RL 129 yX3_open ∈ pgWd := pg_in 622 (by decide +kernel)
theorem q_623 : Cond.instanceMethod yX3_open ∈ pgWd := pg_in 623 (by decide +kernel)
theorem q_624 : Cond.selects RX3 yX3_open yX3_open ∈ pgWd := pg_in 624 (by decide +kernel)
theorem q_625 : Cond.code yX3_open cX3_open 4 (some .int) ∈ pgWd := pg_in 625 (by decide +kernel)
theorem q_626 : Cond.methodLink RL 132 yX3_carry ∈ pgWd := pg_in 626 (by decide +kernel)
theorem q_627 : Cond.instanceMethod yX3_carry ∈ pgWd := pg_in 627 (by decide +kernel)
theorem q_628 : Cond.selects RX3 yX3_carry yX3_carry ∈ pgWd := pg_in 628 (by decide +kernel)
theorem q_629 : Cond.code yX3_carry cX3_carry 6 (some .int) ∈ pgWd := pg_in 629 (by decide +kernel)
theorem q_630 : Cond.methodLink RL 135 yX3_wipe ∈ pgWd := pg_in 630 (by decide +kernel)
theorem q_631 : Cond.instanceMethod yX3_wipe ∈ pgWd := pg_in 631 (by decide +kernel)
theorem q_632 : Cond.selects RX3 yX3_wipe yX3_wipe ∈ pgWd := pg_in 632 (by decide +kernel)
theorem q_633 : Cond.code yX3_wipe cX3_wipe 6 (some .int) ∈ pgWd := pg_in 633 (by decide +kernel)
theorem q_634 : Cond.methodLink RL 138 yX3_smash ∈ pgWd := pg_in 634 (by decide +kernel)
theorem q_635 : Cond.instanceMethod yX3_smash ∈ pgWd := pg_in 635 (by decide +kernel)
theorem q_636 : Cond.selects RX3 yX3_smash yX3_smash ∈ pgWd := pg_in 636 (by decide +kernel)
theorem q_637 : Cond.code yX3_smash cX3_smash 5 (some .int) ∈ pgWd := pg_in 637 (by decide +kernel)
theorem q_638 : Cond.methodLink RL 142 yX3_check ∈ pgWd := pg_in 638 (by decide +kernel)
theorem q_639 : Cond.instanceMethod yX3_check ∈ pgWd := pg_in 639 (by decide +kernel)
theorem q_640 : Cond.selects RX3 yX3_check yX3_check ∈ pgWd := pg_in 640 (by decide +kernel)
theorem q_641 : Cond.code yX3_check cX3_check 6 (some .int) ∈ pgWd := pg_in 641 (by decide +kernel)
theorem q_642 : Cond.methodLink RL 145 yX3_lose ∈ pgWd := pg_in 642 (by decide +kernel)
theorem q_643 : Cond.instanceMethod yX3_lose ∈ pgWd := pg_in 643 (by decide +kernel)
theorem q_644 : Cond.selects RX3 yX3_lose yX3_lose ∈ pgWd := pg_in 644 (by decide +kernel)
theorem q_645 : Cond.code yX3_lose cX3_lose 2 (some .int) ∈ pgWd := pg_in 645 (by decide +kernel)
theorem q_646 : Cond.methodLink RL 148 yX3_find ∈ pgWd := pg_in 646 (by decide +kernel)
theorem q_647 : Cond.instanceMethod yX3_find ∈ pgWd := pg_in 647 (by decide +kernel)
theorem q_648 : Cond.selects RX3 yX3_find yX3_find ∈ pgWd := pg_in 648 (by decide +kernel)
theorem q_649 : Cond.code yX3_find cX3_find 2 (some .int) ∈ pgWd := pg_in 649 (by decide +kernel)
theorem q_650 : Cond.methodLink RL 151 yX3_certify ∈ pgWd := pg_in 650 (by decide +kernel)
theorem q_651 : Cond.instanceMethod yX3_certify ∈ pgWd := pg_in 651 (by decide +kernel)
theorem q_652 : Cond.selects RX3 yX3_certify yX3_certify ∈ pgWd := pg_in 652 (by decide +kernel)
theorem q_653 : Cond.code yX3_certify cX3_certify 4 (some .int) ∈ pgWd := pg_in 653 (by decide +kernel)
theorem q_654 : Cond.methodLink RX3 93 yX3_isOver ∈ pgWd := pg_in 654 (by decide +kernel)
theorem q_656 : Cond.instanceMethod yX3_isOver ∈ pgWd := pg_in 656 (by decide +kernel)
theorem q_657 : Cond.code yX3_isOver cX3_isOver 2 (some .boolean) ∈ pgWd := pg_in 657 (by decide +kernel)
theorem q_658 : Cond.methodLink RL 155 yX3_disks ∈ pgWd := pg_in 658 (by decide +kernel)
theorem q_659 : Cond.instanceMethod yX3_disks ∈ pgWd := pg_in 659 (by decide +kernel)
theorem q_660 : Cond.selects RX3 yX3_disks yX3_disks ∈ pgWd := pg_in 660 (by decide +kernel)
theorem q_661 : Cond.code yX3_disks cX3_disks 1 (some .int) ∈ pgWd := pg_in 661 (by decide +kernel)
theorem q_662 : Cond.methodLink RL 158 yX3_keeperOf ∈ pgWd := pg_in 662 (by decide +kernel)
theorem q_663 : Cond.instanceMethod yX3_keeperOf ∈ pgWd := pg_in 663 (by decide +kernel)
theorem q_664 : Cond.selects RX3 yX3_keeperOf yX3_keeperOf ∈ pgWd := pg_in 664 (by decide +kernel)
theorem q_665 : Cond.code yX3_keeperOf cX3_keeperOf 2 (some .int) ∈ pgWd := pg_in 665 (by decide +kernel)
theorem q_666 : Cond.methodLink RX3 99 yX3_isAsked ∈ pgWd := pg_in 666 (by decide +kernel)
theorem q_668 : Cond.instanceMethod yX3_isAsked ∈ pgWd := pg_in 668 (by decide +kernel)
theorem q_669 : Cond.code yX3_isAsked cX3_isAsked 2 (some .boolean) ∈ pgWd := pg_in 669 (by decide +kernel)
theorem q_670 : Cond.methodLink RL 161 yX3_keeperByLog ∈ pgWd := pg_in 670 (by decide +kernel)
theorem q_671 : Cond.instanceMethod yX3_keeperByLog ∈ pgWd := pg_in 671 (by decide +kernel)
theorem q_672 : Cond.selects RX3 yX3_keeperByLog yX3_keeperByLog ∈ pgWd := pg_in 672 (by decide +kernel)
theorem q_673 : Cond.code yX3_keeperByLog cX3_keeperByLog 2 (some .int) ∈ pgWd := pg_in 673 (by decide +kernel)
theorem q_674 : Cond.methodLink RL 164 yX3_crateOf ∈ pgWd := pg_in 674 (by decide +kernel)
theorem q_675 : Cond.instanceMethod yX3_crateOf ∈ pgWd := pg_in 675 (by decide +kernel)
theorem q_676 : Cond.selects RX3 yX3_crateOf yX3_crateOf ∈ pgWd := pg_in 676 (by decide +kernel)
theorem q_677 : Cond.code yX3_crateOf cX3_crateOf 2 (some .int) ∈ pgWd := pg_in 677 (by decide +kernel)
theorem q_678 : Cond.methodLink RL 167 yX3_stateOf ∈ pgWd := pg_in 678 (by decide +kernel)
theorem q_679 : Cond.instanceMethod yX3_stateOf ∈ pgWd := pg_in 679 (by decide +kernel)
theorem q_680 : Cond.selects RX3 yX3_stateOf yX3_stateOf ∈ pgWd := pg_in 680 (by decide +kernel)
theorem q_681 : Cond.code yX3_stateOf cX3_stateOf 2 (some .int) ∈ pgWd := pg_in 681 (by decide +kernel)
theorem q_682 : Cond.methodLink RL 170 yX3_isDone ∈ pgWd := pg_in 682 (by decide +kernel)
theorem q_683 : Cond.instanceMethod yX3_isDone ∈ pgWd := pg_in 683 (by decide +kernel)
theorem q_684 : Cond.selects RX3 yX3_isDone yX3_isDone ∈ pgWd := pg_in 684 (by decide +kernel)
theorem q_685 : Cond.code yX3_isDone cX3_isDone 2 (some .boolean) ∈ pgWd := pg_in 685 (by decide +kernel)
theorem q_686 : Cond.methodLink RL 173 yX3_offeredTo ∈ pgWd := pg_in 686 (by decide +kernel)
theorem q_687 : Cond.instanceMethod yX3_offeredTo ∈ pgWd := pg_in 687 (by decide +kernel)
theorem q_688 : Cond.selects RX3 yX3_offeredTo yX3_offeredTo ∈ pgWd := pg_in 688 (by decide +kernel)
theorem q_689 : Cond.code yX3_offeredTo cX3_offeredTo 2 (some .int) ∈ pgWd := pg_in 689 (by decide +kernel)
theorem q_690 : Cond.methodLink RL 176 yX3_certificateOf ∈ pgWd := pg_in 690 (by decide +kernel)
theorem q_691 : Cond.instanceMethod yX3_certificateOf ∈ pgWd := pg_in 691 (by decide +kernel)
theorem q_692 : Cond.selects RX3 yX3_certificateOf yX3_certificateOf ∈ pgWd := pg_in 692 (by decide +kernel)
theorem q_693 : Cond.code yX3_certificateOf cX3_certificateOf 2 (some .int) ∈ pgWd := pg_in 693 (by decide +kernel)
theorem q_694 : Cond.methodLink RL 179 yX3_crateKeeper ∈ pgWd := pg_in 694 (by decide +kernel)
theorem q_695 : Cond.instanceMethod yX3_crateKeeper ∈ pgWd := pg_in 695 (by decide +kernel)
theorem q_696 : Cond.selects RX3 yX3_crateKeeper yX3_crateKeeper ∈ pgWd := pg_in 696 (by decide +kernel)
theorem q_697 : Cond.code yX3_crateKeeper cX3_crateKeeper 2 (some .int) ∈ pgWd := pg_in 697 (by decide +kernel)
theorem q_698 : Cond.methodLink RL 182 yX3_sealOf ∈ pgWd := pg_in 698 (by decide +kernel)
theorem q_699 : Cond.instanceMethod yX3_sealOf ∈ pgWd := pg_in 699 (by decide +kernel)
theorem q_700 : Cond.selects RX3 yX3_sealOf yX3_sealOf ∈ pgWd := pg_in 700 (by decide +kernel)
theorem q_701 : Cond.code yX3_sealOf cX3_sealOf 2 (some .int) ∈ pgWd := pg_in 701 (by decide +kernel)
theorem q_702 : Cond.methodLink RL 185 yX3_has ∈ pgWd := pg_in 702 (by decide +kernel)
theorem q_703 : Cond.instanceMethod yX3_has ∈ pgWd := pg_in 703 (by decide +kernel)
theorem q_704 : Cond.selects RX3 yX3_has yX3_has ∈ pgWd := pg_in 704 (by decide +kernel)
theorem q_705 : Cond.code yX3_has cX3_has 4 (some .int) ∈ pgWd := pg_in 705 (by decide +kernel)
theorem q_706 : Cond.methodLink RL 189 yX3_missing ∈ pgWd := pg_in 706 (by decide +kernel)
theorem q_707 : Cond.instanceMethod yX3_missing ∈ pgWd := pg_in 707 (by decide +kernel)
theorem q_708 : Cond.selects RX3 yX3_missing yX3_missing ∈ pgWd := pg_in 708 (by decide +kernel)
theorem q_709 : Cond.code yX3_missing cX3_missing 3 (some .int) ∈ pgWd := pg_in 709 (by decide +kernel)
theorem q_710 : Cond.methodLink RL 193 yX3_oddCounts ∈ pgWd := pg_in 710 (by decide +kernel)
theorem q_711 : Cond.instanceMethod yX3_oddCounts ∈ pgWd := pg_in 711 (by decide +kernel)
theorem q_712 : Cond.selects RX3 yX3_oddCounts yX3_oddCounts ∈ pgWd := pg_in 712 (by decide +kernel)
theorem q_713 : Cond.code yX3_oddCounts cX3_oddCounts 1 (some .int) ∈ pgWd := pg_in 713 (by decide +kernel)
theorem q_714 : Cond.methodLink RL 197 yX3_logged ∈ pgWd := pg_in 714 (by decide +kernel)
theorem q_715 : Cond.instanceMethod yX3_logged ∈ pgWd := pg_in 715 (by decide +kernel)
theorem q_716 : Cond.selects RX3 yX3_logged yX3_logged ∈ pgWd := pg_in 716 (by decide +kernel)
theorem q_717 : Cond.code yX3_logged cX3_logged 1 (some .int) ∈ pgWd := pg_in 717 (by decide +kernel)
theorem q_718 : Cond.methodLink RL 201 yX3_certificates ∈ pgWd := pg_in 718 (by decide +kernel)
theorem q_719 : Cond.instanceMethod yX3_certificates ∈ pgWd := pg_in 719 (by decide +kernel)
theorem q_720 : Cond.selects RX3 yX3_certificates yX3_certificates ∈ pgWd := pg_in 720 (by decide +kernel)
theorem q_721 : Cond.code yX3_certificates cX3_certificates 1 (some .int) ∈ pgWd := pg_in 721 (by decide +kernel)
theorem q_722 : Cond.arrayClass .long ∈ pgWd := pg_in 722 (by decide +kernel)
theorem q_p1 : Cond.selects RX2 yX2_handOver yX2_handOver ∈ pgWd := pg_inP 1 (by decide +kernel)
theorem q_p2 : Cond.selects RX2 yX2_findDisk yX2_findDisk ∈ pgWd := pg_inP 2 (by decide +kernel)
theorem q_p3 : Cond.selects RX2 yX2_findCrate yX2_findCrate ∈ pgWd := pg_inP 3 (by decide +kernel)
theorem q_p4 : Cond.selects RX2 yX2_countDisksIn yX2_countDisksIn ∈ pgWd := pg_inP 4 (by decide +kernel)
theorem q_p5 : Cond.selects RX2 yX2_handOverDisksIn yX2_handOverDisksIn ∈ pgWd := pg_inP 5 (by decide +kernel)
theorem q_p6 : Cond.selects RX3 yX3_can yX3_can ∈ pgWd := pg_inP 6 (by decide +kernel)
theorem q_p7 : Cond.selects RX3 yX3_isDisk yX3_isDisk ∈ pgWd := pg_inP 7 (by decide +kernel)
theorem q_p8 : Cond.selects RX3 yX3_isBarred yX3_isBarred ∈ pgWd := pg_inP 8 (by decide +kernel)
theorem q_p9 : Cond.selects RX3 yX3_isShut yX3_isShut ∈ pgWd := pg_inP 9 (by decide +kernel)
theorem q_p10 : Cond.selects RX3 yX3_countIn yX3_countIn ∈ pgWd := pg_inP 10 (by decide +kernel)
theorem q_p11 : Cond.selects RX3 yX3_isOver yX3_isOver ∈ pgWd := pg_inP 11 (by decide +kernel)
theorem q_p12 : Cond.selects RX3 yX3_isAsked yX3_isAsked ∈ pgWd := pg_inP 12 (by decide +kernel)
theorem pgX0 : ∀ w ∈ u_ws RX0 TX0 4, w ∈ pgWd := pg_ins [36, 38, 40, 42] (by decide +kernel)
theorem pgX1 : ∀ w ∈ u_ws RX1 TX1 11, w ∈ pgWd := pg_ins [226, 228, 230, 232, 234, 236, 238, 240, 242, 244, 246] (by decide +kernel)
theorem pgX2 : ∀ w ∈ u_ws RX2 TX2 7, w ∈ pgWd := pg_ins [52, 54, 56, 58, 60, 62, 64] (by decide +kernel)
theorem pgX3 : ∀ w ∈ u_ws RX3 TX3 19, w ∈ pgWd := pg_ins [524, 526, 528, 530, 532, 534, 536, 538, 540, 542, 544, 546, 548, 550, 552, 554, 556, 558, 560] (by decide +kernel)
theorem pgTI : ∀ w ∈ (vx_atS RX2 188 "java/lang/IndexOutOfBoundsException" ["java/lang/RuntimeException", "java/lang/Exception"]).filter goodWord, w ∈ pgWd := pg_ins [4, 122, 131, 136, 139, 141, 123, 124, 18, 19, 125, 130, 137, 157, 112, 158, 114, 159, 116, 126, 128, 118, 153, 154, 156, 118, 144, 145, 146, 147, 147, 148, 149, 150, 150, 151, 152, 153, 143, 101, 109, 110, 111, 113, 115, 117, 121, 120, 119] (by decide +kernel)
theorem pgTA : ∀ w ∈ (vx_atS RX2 31 "java/lang/IllegalArgumentException" ["java/lang/RuntimeException", "java/lang/Exception"]).filter goodWord, w ∈ pgWd := pg_ins [4, 122, 131, 136, 139, 141, 123, 124, 18, 19, 125, 130, 137, 157, 112, 158, 114, 159, 116, 126, 128, 118, 153, 154, 156, 118, 180, 181, 182, 147, 147, 148, 149, 150, 150, 151, 152, 153, 179, 170, 172, 133, 173, 174, 175, 176, 121, 120, 177] (by decide +kernel)
theorem pgTS : ∀ w ∈ (vx_atS RX2 42 "java/lang/IllegalStateException" ["java/lang/RuntimeException", "java/lang/Exception"]).filter goodWord, w ∈ pgWd := pg_ins [4, 122, 131, 136, 139, 141, 123, 124, 18, 19, 125, 130, 137, 157, 112, 158, 114, 159, 116, 126, 128, 118, 153, 154, 156, 118, 196, 197, 198, 147, 147, 148, 149, 150, 150, 151, 152, 153, 195, 186, 188, 134, 189, 190, 191, 192, 121, 120, 193] (by decide +kernel)
end
section
def pgStr : List (Nat × String) := [(191, "there is no such keeper"), (29, "kind or secrecy is out of range"), (40, "no more disks can be brought"), (186, "there is no such disk"), (57, "the disk is offered to its keeper"), (193, "the disk is missing, offered or in a crate"), (70, "the disk is missing or not offered"), (189, "there is no such crate"), (81, "the crate is sealed or with another keeper"), (91, "the disk is missing, in no crate or in a sealed one"), (99, "the crate is sealed or no more seals can be made"), (107, "the count is out of range"), (109, "the crate is open"), (114, "the crate is carried to its keeper"), (116, "the crate is open and has disks"), (122, "there is no such way"), (200, "the witness is the keeper of the disk"), (198, "the disk is missing, offered or in a sealed crate"), (133, "the disk is wiped or broken"), (147, "the disk is broken"), (149, "the witness wiped the disk"), (151, "the disk is not wiped"), (153, "the disk is missing"), (155, "the disk is not missing"), (172, "no disk would be on the certificate")]
abbrev pgEI : String := "java/lang/IndexOutOfBoundsException"
abbrev pgEA : String := "java/lang/IllegalArgumentException"
abbrev pgES : String := "java/lang/IllegalStateException"
abbrev pgEN : String := "java/util/NoSuchElementException"
abbrev pgNm : List String := ["java/lang/RuntimeException", "java/lang/Exception"]
def pgInitS (X : String) : MethodName := ⟨X, "<init>", "(Ljava/lang/String;)V"⟩
/-- the words of a throw that the tables alone decide but that aren't kept by themselves -/
def pgNw : List Cond := [.castable pgEI pgEI, .castable pgEA pgEA, .castable pgES pgES, .castable pgEN pgEN, .declares (pgInitS "java/lang/RuntimeException"), .declares (pgInitS "java/lang/Exception"), .declares (pgInitS "java/lang/Throwable")]
def pgNC : List (String × String) := [(pgEA, pgEI), (pgES, pgEI), (pgES, pgEA), (pgEN, pgEI)]
/-- which exception a code names -/
def pgExn (k : Nat) : String := if k = 1 then pgEI else if k = 2 then pgEA else if k = 3 then pgES else pgEN
/-- what every method of ours needs of the state around it -/
def pgE (D : va_G) (tys : List (ClassId × FieldType)) (A : Nat → Prop) (U : State) : Prop :=
  va_K D vwCl tys U ∧ (vx_Zq Bundle.tN "UNASSIGNED_STACK" Bundle.steD A U U.heap ∧ vx_Zq Bundle.tN "SUPPRESSED_SENTINEL" Bundle.listD A U U.heap) ∧ (∀ q ∈ pgStr, ∃ sa : Nat, vk_R RX2 q.1 q.2 sa U) ∧ (∀ w ∈ pgNw, va_Nw w U) ∧ ((∀ q ∈ pgNC, va_Nc q.1 q.2 U) ∧ va_AO RX1 U ∧ va_AO RX0 U) ∧ (∀ q : Nat, U.heap.size ≤ q → A q)
theorem pgNw_moved {s U : State} (hW : s.WarmedH U.vm) (h : ∀ w ∈ pgNw, va_Nw w s) : ∀ w ∈ pgNw, va_Nw w U := by
  intro w hw
  have h1 := h w hw
  simp only [pgNw, List.mem_cons, List.not_mem_nil, or_false] at hw
  rcases hw with rfl | rfl | rfl | rfl | rfl | rfl | rfl
  · exact va_Nw.warmC hW h1
  · exact va_Nw.warmC hW h1
  · exact va_Nw.warmC hW h1
  · exact va_Nw.warmC hW h1
  · exact va_Nw.warmD hW h1
  · exact va_Nw.warmD hW h1
  · exact va_Nw.warmD hW h1
theorem pgE.at {D : va_G} {tys : List (ClassId × FieldType)} {A : Nat → Prop} {s U : State} {H : Heap} {locs : List Loc} (h : pgE D tys A s) (hS : va_S A s.heap H locs) (hU : U.heap = H) (hW : s.WarmedH U.vm) : pgE D tys A U := by
  obtain ⟨h1, ⟨h2, h3⟩, h4, h5, h6, h7⟩ := h
  refine ⟨va_K.moved hW.alike h1, ⟨?_, ?_⟩, fun q hq => ?_, pgNw_moved hW h5, ⟨fun q hq => va_Nc.moved hW.alike (h6.1 q hq), va_AO.moved hW.alike h6.2.1, va_AO.moved hW.alike h6.2.2⟩, fun q hq => h7 q (Nat.le_trans hS.1 (by rw [← hU]; exact hq))⟩
  · rw [hU]; exact vx_Zq.moved hW.alike (h2.kept hS.2.1)
  · rw [hU]; exact vx_Zq.moved hW.alike (h3.kept hS.2.1)
  · obtain ⟨sa, h⟩ := h4 q hq
    exact ⟨sa, vk_R.warm hW h⟩
theorem pgE.narrow {D : va_G} {tys : List (ClassId × FieldType)} {A B : Nat → Prop} {U : State} (h : pgE D tys A U) (hAB : ∀ q, B q → A q) (hN : ∀ q : Nat, U.heap.size ≤ q → B q) : pgE D tys B U := ⟨h.1, ⟨h.2.1.1.narrow hAB, h.2.1.2.narrow hAB⟩, h.2.2.1, h.2.2.2.1, h.2.2.2.2.1, hN⟩
theorem pgE.tys {D : va_G} {tys tys' : List (ClassId × FieldType)} {A : Nat → Prop} {U : State} (h : pgE D tys A U) (hK : va_K D vwCl tys' U) : pgE D tys' A U := ⟨hK, h.2⟩
/-- a method's start: its arguments, the state around it, its world -/
abbrev pgPc (D : va_G) (tys : List (ClassId × FieldType)) (A : Nat → Prop) (Wd : Heap → Prop) (av : List Value) : Array Value → State → Prop := va_Pc av (fun U => pgE D tys A U ∧ Wd U.heap)
theorem pgBlind {D : va_G} {tys : List (ClassId × FieldType)} {A : Nat → Prop} {Wd : Heap → Prop} {av : List Value} : FrameBlind (pgPc D tys A Wd av) := by
  intro a U g mk h
  obtain ⟨h0, ⟨h1, ⟨h2, h3⟩, h4, h5, h6, h7⟩, h8⟩ := h
  have hvm : U.vm.Alike (U.calling g mk a).vm := Vm.Alike.refl U.vm
  refine ⟨h0, ⟨va_K.moved (u := U) (U := U.calling g mk a) hvm h1, ⟨vx_Zq.moved (u := U) (U := U.calling g mk a) hvm h2, vx_Zq.moved (u := U) (U := U.calling g mk a) hvm h3⟩, fun q hq => ?_, fun w hw => ?_, ⟨fun q hq => va_Nc.moved (u := U) (U := U.calling g mk a) hvm (h6.1 q hq), va_AO.moved (u := U) (U := U.calling g mk a) hvm h6.2.1, va_AO.moved (u := U) (U := U.calling g mk a) hvm h6.2.2⟩, h7⟩, h8⟩
  · obtain ⟨sa, h⟩ := h4 q hq
    exact ⟨sa, vk_R.same (u := U) (U := U.calling g mk a) rfl h⟩
  · have hon : w.onTables = true := by
      simp only [pgNw, List.mem_cons, List.not_mem_nil, or_false] at hw
      rcases hw with rfl | rfl | rfl | rfl | rfl | rfl | rfl <;> rfl
    exact va_Nw.same (u := U) (U := U.calling g mk a) hon rfl (h5 w hw)
/-- where a method of ours throws: which code, and the world -/
abbrev pgX (A : Nat → Prop) (px : Nat → Prop) (Wd : Heap → Prop) : String → State → State → Prop := vx_X px (fun E k t => E = pgExn k ∧ Wd t.heap) A
/-- what is known all along a body -/
def pgB (p : Program) (m : MethodId) (c : Code) (s : State) (args : Array Value) (meth : Method) (own : String) (cc : ByteArray) (nL : Nat) (D : va_G) (tys : List (ClassId × FieldType)) (A : Nat → Prop) : Prop :=
  p.tables.exec = Jvm.exec ∧ c.code = cc ∧ c.maxLocals = nL ∧ s.vm.findClass own = some m.cls ∧ (∀ w ∈ pgWd, w.before args s = true) ∧ meth.locks = false ∧ pgE D tys A s
/-- from every heap with this world, these locals and this stack the machine, at pc, comes to Q -/
def pgJ (p : Program) (l : Launch) (e : Env) (R : Room) (s : State) (m : MethodId) (args : Array Value) (below : List Frame) (meth : Method) (c : Code) (nL : Nat) (A : Nat → Prop) (Wd : Heap → Prop) (cells slots : Nat) (Q : State → Prop) (pc : Nat) (L : List (Nat × Value)) (st : List Value) : Prop :=
  ∀ (H : Heap) (locs : List Loc) (ls : Array Slot), va_S A s.heap H locs → Wd H → lv_has ls nL L → W p l e R s m args below meth c H locs cells slots Q (F0 m pc ls st)
section PGJ
variable {p : Program} {l : Launch} {e : Env} {R : Room} {s : State} {m : MethodId} {args : Array Value} {below : List Frame} {meth : Method} {c : Code} {own : String} {cc : ByteArray} {nL : Nat} {D : va_G} {tys : List (ClassId × FieldType)} {A : Nat → Prop} {Wd Wd' : Heap → Prop} {cells slots : Nat} {Q : State → Prop} {pc : Nat} {L L' : List (Nat × Value)} {st stk : List Value}
theorem j_iload_n (B : pgB p m c s args meth own cc nL D tys A) {k : Fin 4} {i : Nat} {x : Int32} (hdg : decode cc pc = .ok (.iload_n k, 1)) (pl : Nat) (hL : L[pl]? = some (i, .int x)) (hi : (k : Nat) = i) (kk : pgJ p l e R s m args below meth c nL A (Wd) (cells) (slots) (Q) (pc + 1) (L) (.int x :: st)) : pgJ p l e R s m args below meth c nL A (Wd) (cells) (slots) (Q) (pc) (L) (st) := fun H locs ls hS hW hl => lv_iload_n B.1 B.2.1 hdg hi (lv_at hl pl hL) (kk H locs ls hS hW hl)
theorem j_iload (B : pgB p m c s args meth own cc nL D tys A) {i : Nat} {x : Int32} (hdg : decode cc pc = .ok (.iload i, 2)) (pl : Nat) (hL : L[pl]? = some (i, .int x)) (kk : pgJ p l e R s m args below meth c nL A (Wd) (cells) (slots) (Q) (pc + 2) (L) (.int x :: st)) : pgJ p l e R s m args below meth c nL A (Wd) (cells) (slots) (Q) (pc) (L) (st) := fun H locs ls hS hW hl => lv_iload B.1 B.2.1 hdg (lv_at hl pl hL) (kk H locs ls hS hW hl)
theorem j_aload_n (B : pgB p m c s args meth own cc nL D tys A) {k : Fin 4} {i : Nat} {x : Nat} (hdg : decode cc pc = .ok (.aload_n k, 1)) (pl : Nat) (hL : L[pl]? = some (i, .ref x)) (hi : (k : Nat) = i) (kk : pgJ p l e R s m args below meth c nL A (Wd) (cells) (slots) (Q) (pc + 1) (L) (.ref x :: st)) : pgJ p l e R s m args below meth c nL A (Wd) (cells) (slots) (Q) (pc) (L) (st) := fun H locs ls hS hW hl => lv_aload_n B.1 B.2.1 hdg hi (lv_at hl pl hL) (kk H locs ls hS hW hl)
theorem j_aload (B : pgB p m c s args meth own cc nL D tys A) {i : Nat} {x : Nat} (hdg : decode cc pc = .ok (.aload i, 2)) (pl : Nat) (hL : L[pl]? = some (i, .ref x)) (kk : pgJ p l e R s m args below meth c nL A (Wd) (cells) (slots) (Q) (pc + 2) (L) (.ref x :: st)) : pgJ p l e R s m args below meth c nL A (Wd) (cells) (slots) (Q) (pc) (L) (st) := fun H locs ls hS hW hl => lv_aload B.1 B.2.1 hdg (lv_at hl pl hL) (kk H locs ls hS hW hl)
theorem j_aload_nN (B : pgB p m c s args meth own cc nL D tys A) {k : Fin 4} {i : Nat} (hdg : decode cc pc = .ok (.aload_n k, 1)) (pl : Nat) (hL : L[pl]? = some (i, .null)) (hi : (k : Nat) = i) (kk : pgJ p l e R s m args below meth c nL A (Wd) (cells) (slots) (Q) (pc + 1) (L) (.null :: st)) : pgJ p l e R s m args below meth c nL A (Wd) (cells) (slots) (Q) (pc) (L) (st) := fun H locs ls hS hW hl => lv_aload_nN B.1 B.2.1 hdg hi (lv_at hl pl hL) (kk H locs ls hS hW hl)
theorem j_aloadN (B : pgB p m c s args meth own cc nL D tys A) {i : Nat} (hdg : decode cc pc = .ok (.aload i, 2)) (pl : Nat) (hL : L[pl]? = some (i, .null)) (kk : pgJ p l e R s m args below meth c nL A (Wd) (cells) (slots) (Q) (pc + 2) (L) (.null :: st)) : pgJ p l e R s m args below meth c nL A (Wd) (cells) (slots) (Q) (pc) (L) (st) := fun H locs ls hS hW hl => lv_aloadN B.1 B.2.1 hdg (lv_at hl pl hL) (kk H locs ls hS hW hl)
theorem j_iconst (B : pgB p m c s args meth own cc nL D tys A) {n : Int} {v : Int32} (hdg : decode cc pc = .ok (.iconst n, 1)) (hv : Int32.ofInt n = v) (kk : pgJ p l e R s m args below meth c nL A (Wd) (cells) (slots) (Q) (pc + 1) (L) (.int v :: st)) : pgJ p l e R s m args below meth c nL A (Wd) (cells) (slots) (Q) (pc) (L) (st) := fun H locs ls hS hW hl => lv_iconst B.1 B.2.1 hdg hv (kk H locs ls hS hW hl)
theorem j_bipush (B : pgB p m c s args meth own cc nL D tys A) {n : Int} {v : Int32} (hdg : decode cc pc = .ok (.bipush n, 2)) (hv : (Int8.ofInt n).toInt32 = v) (kk : pgJ p l e R s m args below meth c nL A (Wd) (cells) (slots) (Q) (pc + 2) (L) (.int v :: st)) : pgJ p l e R s m args below meth c nL A (Wd) (cells) (slots) (Q) (pc) (L) (st) := fun H locs ls hS hW hl => lv_bipush B.1 B.2.1 hdg hv (kk H locs ls hS hW hl)
theorem j_lconst (B : pgB p m c s args meth own cc nL D tys A) {n : Fin 2} {v : Int64} (hdg : decode cc pc = .ok (.lconst n, 1)) (hv : Int64.ofNat (n : Nat) = v) (kk : pgJ p l e R s m args below meth c nL A (Wd) (cells) (slots) (Q) (pc + 1) (L) (.long v :: st)) : pgJ p l e R s m args below meth c nL A (Wd) (cells) (slots) (Q) (pc) (L) (st) := fun H locs ls hS hW hl => lv_lconst B.1 B.2.1 hdg hv (kk H locs ls hS hW hl)
theorem j_null (B : pgB p m c s args meth own cc nL D tys A) (hdg : decode cc pc = .ok (.aconst_null, 1)) (kk : pgJ p l e R s m args below meth c nL A (Wd) (cells) (slots) (Q) (pc + 1) (L) (.null :: st)) : pgJ p l e R s m args below meth c nL A (Wd) (cells) (slots) (Q) (pc) (L) (st) := fun H locs ls hS hW hl => lv_null B.1 B.2.1 hdg (kk H locs ls hS hW hl)
theorem j_goto (B : pgB p m c s args meth own cc nL D tys A) {off : Int} (tgt : Nat) (hdg : decode cc pc = .ok (.goto off, 3)) (ht : (pc : Int) + off = (tgt : Int)) (kk : pgJ p l e R s m args below meth c nL A (Wd) (cells) (slots) (Q) (tgt) (L) (st)) : pgJ p l e R s m args below meth c nL A (Wd) (cells) (slots) (Q) (pc) (L) (st) := fun H locs ls hS hW hl => lv_goto B.1 B.2.1 hdg ht (kk H locs ls hS hW hl)
theorem j_iadd (B : pgB p m c s args meth own cc nL D tys A) {x y : Int32} (hdg : decode cc pc = .ok (.iadd, 1)) (kk : pgJ p l e R s m args below meth c nL A (Wd) (cells) (slots) (Q) (pc + 1) (L) (.int (x + y) :: st)) : pgJ p l e R s m args below meth c nL A (Wd) (cells) (slots) (Q) (pc) (L) (.int y :: .int x :: st) := fun H locs ls hS hW hl => lv_iadd B.1 B.2.1 hdg (kk H locs ls hS hW hl)
theorem j_isub (B : pgB p m c s args meth own cc nL D tys A) {x y : Int32} (hdg : decode cc pc = .ok (.isub, 1)) (kk : pgJ p l e R s m args below meth c nL A (Wd) (cells) (slots) (Q) (pc + 1) (L) (.int (x - y) :: st)) : pgJ p l e R s m args below meth c nL A (Wd) (cells) (slots) (Q) (pc) (L) (.int y :: .int x :: st) := fun H locs ls hS hW hl => lv_isub B.1 B.2.1 hdg (kk H locs ls hS hW hl)
theorem j_iand (B : pgB p m c s args meth own cc nL D tys A) {x y : Int32} (hdg : decode cc pc = .ok (.iand, 1)) (kk : pgJ p l e R s m args below meth c nL A (Wd) (cells) (slots) (Q) (pc + 1) (L) (.int (x &&& y) :: st)) : pgJ p l e R s m args below meth c nL A (Wd) (cells) (slots) (Q) (pc) (L) (.int y :: .int x :: st) := fun H locs ls hS hW hl => lv_iand B.1 B.2.1 hdg (kk H locs ls hS hW hl)
theorem j_i2l (B : pgB p m c s args meth own cc nL D tys A) {x : Int32} (hdg : decode cc pc = .ok (.i2l, 1)) (kk : pgJ p l e R s m args below meth c nL A (Wd) (cells) (slots) (Q) (pc + 1) (L) (.long x.toInt64 :: st)) : pgJ p l e R s m args below meth c nL A (Wd) (cells) (slots) (Q) (pc) (L) (.int x :: st) := fun H locs ls hS hW hl => lv_i2l B.1 B.2.1 hdg rfl (kk H locs ls hS hW hl)
theorem j_lcmp (B : pgB p m c s args meth own cc nL D tys A) {x y : Int64} (hdg : decode cc pc = .ok (.lcmp, 1)) (kk : pgJ p l e R s m args below meth c nL A (Wd) (cells) (slots) (Q) (pc + 1) (L) (.int (lg_cmp x y) :: st)) : pgJ p l e R s m args below meth c nL A (Wd) (cells) (slots) (Q) (pc) (L) (.long y :: .long x :: st) := fun H locs ls hS hW hl => W.lcmp B.1 B.2.1 hdg (kk H locs ls hS hW hl)
theorem j_dup (B : pgB p m c s args meth own cc nL D tys A) {va : Value} (hdg : decode cc pc = .ok (.dup, 1)) (hva : va.category = 1) (kk : pgJ p l e R s m args below meth c nL A (Wd) (cells) (slots) (Q) (pc + 1) (L) (va :: va :: st)) : pgJ p l e R s m args below meth c nL A (Wd) (cells) (slots) (Q) (pc) (L) (va :: st) := fun H locs ls hS hW hl => lv_dup B.1 B.2.1 hdg hva (kk H locs ls hS hW hl)
theorem j_ifnonnull (B : pgB p m c s args meth own cc nL D tys A) {x : Nat} {off : Int} (tgt : Nat) (hdg : decode cc pc = .ok (.ifnonnull off, 3)) (ht : (pc : Int) + off = (tgt : Int)) (kk : pgJ p l e R s m args below meth c nL A (Wd) (cells) (slots) (Q) (tgt) (L) (st)) : pgJ p l e R s m args below meth c nL A (Wd) (cells) (slots) (Q) (pc) (L) (.ref x :: st) := fun H locs ls hS hW hl => lv_ifnonnull B.1 B.2.1 hdg ht (kk H locs ls hS hW hl)
theorem j_ifnonnullN (B : pgB p m c s args meth own cc nL D tys A) {off : Int} (hdg : decode cc pc = .ok (.ifnonnull off, 3)) (kk : pgJ p l e R s m args below meth c nL A (Wd) (cells) (slots) (Q) (pc + 3) (L) (st)) : pgJ p l e R s m args below meth c nL A (Wd) (cells) (slots) (Q) (pc) (L) (.null :: st) := fun H locs ls hS hW hl => lv_ifnonnullN B.1 B.2.1 hdg (kk H locs ls hS hW hl)
theorem j_ifnull (B : pgB p m c s args meth own cc nL D tys A) {x : Nat} {off : Int} (hdg : decode cc pc = .ok (.ifnull off, 3)) (kk : pgJ p l e R s m args below meth c nL A (Wd) (cells) (slots) (Q) (pc + 3) (L) (st)) : pgJ p l e R s m args below meth c nL A (Wd) (cells) (slots) (Q) (pc) (L) (.ref x :: st) := fun H locs ls hS hW hl => lv_ifnull B.1 B.2.1 hdg (kk H locs ls hS hW hl)
theorem j_ifnullN (B : pgB p m c s args meth own cc nL D tys A) {off : Int} (tgt : Nat) (hdg : decode cc pc = .ok (.ifnull off, 3)) (ht : (pc : Int) + off = (tgt : Int)) (kk : pgJ p l e R s m args below meth c nL A (Wd) (cells) (slots) (Q) (tgt) (L) (st)) : pgJ p l e R s m args below meth c nL A (Wd) (cells) (slots) (Q) (pc) (L) (.null :: st) := fun H locs ls hS hW hl => lv_ifnullN B.1 B.2.1 hdg ht (kk H locs ls hS hW hl)
theorem j_istore_n (B : pgB p m c s args meth own cc nL D tys A) {k : Fin 4} {i : Nat} {x : Int32} (hdg : decode cc pc = .ok (.istore_n k, 1)) (hi : (k : Nat) = i) (hn : i < nL) (hL : (i, Value.int x) :: L.filter (fun q => !(q.1 == i) && !(q.1 + 1 == i && q.2.category == 2)) = L') (kk : pgJ p l e R s m args below meth c nL A (Wd) (cells) (slots) (Q) (pc + 1) (L') (st)) : pgJ p l e R s m args below meth c nL A (Wd) (cells) (slots) (Q) (pc) (L) (Value.int x :: st) := fun H locs ls hS hW hl => lv_istore_n B.1 B.2.1 hdg hi hl hn hL (fun ls2 hl2 => kk H locs ls2 hS hW hl2)
theorem j_istore (B : pgB p m c s args meth own cc nL D tys A) {i : Nat} {x : Int32} (hdg : decode cc pc = .ok (.istore i, 2)) (hn : i < nL) (hL : (i, Value.int x) :: L.filter (fun q => !(q.1 == i) && !(q.1 + 1 == i && q.2.category == 2)) = L') (kk : pgJ p l e R s m args below meth c nL A (Wd) (cells) (slots) (Q) (pc + 2) (L') (st)) : pgJ p l e R s m args below meth c nL A (Wd) (cells) (slots) (Q) (pc) (L) (Value.int x :: st) := fun H locs ls hS hW hl => lv_istore B.1 B.2.1 hdg hl hn hL (fun ls2 hl2 => kk H locs ls2 hS hW hl2)
theorem j_astore_n (B : pgB p m c s args meth own cc nL D tys A) {k : Fin 4} {i : Nat} {x : Nat} (hdg : decode cc pc = .ok (.astore_n k, 1)) (hi : (k : Nat) = i) (hn : i < nL) (hL : (i, Value.ref x) :: L.filter (fun q => !(q.1 == i) && !(q.1 + 1 == i && q.2.category == 2)) = L') (kk : pgJ p l e R s m args below meth c nL A (Wd) (cells) (slots) (Q) (pc + 1) (L') (st)) : pgJ p l e R s m args below meth c nL A (Wd) (cells) (slots) (Q) (pc) (L) (Value.ref x :: st) := fun H locs ls hS hW hl => lv_astore_n B.1 B.2.1 hdg hi hl hn hL (fun ls2 hl2 => kk H locs ls2 hS hW hl2)
theorem j_astore (B : pgB p m c s args meth own cc nL D tys A) {i : Nat} {x : Nat} (hdg : decode cc pc = .ok (.astore i, 2)) (hn : i < nL) (hL : (i, Value.ref x) :: L.filter (fun q => !(q.1 == i) && !(q.1 + 1 == i && q.2.category == 2)) = L') (kk : pgJ p l e R s m args below meth c nL A (Wd) (cells) (slots) (Q) (pc + 2) (L') (st)) : pgJ p l e R s m args below meth c nL A (Wd) (cells) (slots) (Q) (pc) (L) (Value.ref x :: st) := fun H locs ls hS hW hl => lv_astore B.1 B.2.1 hdg hl hn hL (fun ls2 hl2 => kk H locs ls2 hS hW hl2)
theorem j_astore_nN (B : pgB p m c s args meth own cc nL D tys A) {k : Fin 4} {i : Nat} (hdg : decode cc pc = .ok (.astore_n k, 1)) (hi : (k : Nat) = i) (hn : i < nL) (hL : (i, Value.null) :: L.filter (fun q => !(q.1 == i) && !(q.1 + 1 == i && q.2.category == 2)) = L') (kk : pgJ p l e R s m args below meth c nL A (Wd) (cells) (slots) (Q) (pc + 1) (L') (st)) : pgJ p l e R s m args below meth c nL A (Wd) (cells) (slots) (Q) (pc) (L) (Value.null :: st) := fun H locs ls hS hW hl => lv_astore_nN B.1 B.2.1 hdg hi hl hn hL (fun ls2 hl2 => kk H locs ls2 hS hW hl2)
theorem j_astoreN (B : pgB p m c s args meth own cc nL D tys A) {i : Nat} (hdg : decode cc pc = .ok (.astore i, 2)) (hn : i < nL) (hL : (i, Value.null) :: L.filter (fun q => !(q.1 == i) && !(q.1 + 1 == i && q.2.category == 2)) = L') (kk : pgJ p l e R s m args below meth c nL A (Wd) (cells) (slots) (Q) (pc + 2) (L') (st)) : pgJ p l e R s m args below meth c nL A (Wd) (cells) (slots) (Q) (pc) (L) (Value.null :: st) := fun H locs ls hS hW hl => lv_astoreN B.1 B.2.1 hdg hl hn hL (fun ls2 hl2 => kk H locs ls2 hS hW hl2)
theorem j_iinc (B : pgB p m c s args meth own cc nL D tys A) {i : Nat} {n : Int} {x v : Int32} (hdg : decode cc pc = .ok (.iinc i n, 3)) (pl : Nat) (hk : L[pl]? = some (i, .int x)) (hv : x + Int32.ofInt n = v) (hn : i < nL) (hL : (i, Value.int v) :: L.filter (fun q => !(q.1 == i) && !(q.1 + 1 == i && q.2.category == 2)) = L') (kk : pgJ p l e R s m args below meth c nL A (Wd) (cells) (slots) (Q) (pc + 3) (L') (st)) : pgJ p l e R s m args below meth c nL A (Wd) (cells) (slots) (Q) (pc) (L) (st) := fun H locs ls hS hW hl => lv_iinc B.1 B.2.1 hdg hl hk hv hn hL (fun ls2 hl2 => kk H locs ls2 hS hW hl2)
theorem j_if_eq (B : pgB p m c s args meth own cc nL D tys A) {x : Int32} {off : Int} (tgt : Nat) (hdg : decode cc pc = .ok (.ifCond .eq off, 3)) (ht : (pc : Int) + off = (tgt : Int)) (kt : x = 0 → pgJ p l e R s m args below meth c nL A (Wd) (cells) (slots) (Q) (tgt) (L) (st)) (kf : ¬ x = 0 → pgJ p l e R s m args below meth c nL A (Wd) (cells) (slots) (Q) (pc + 3) (L) (st)) : pgJ p l e R s m args below meth c nL A (Wd) (cells) (slots) (Q) (pc) (L) (.int x :: st) := fun H locs ls hS hW hl => lv_if_eq B.1 B.2.1 hdg ht (fun h => kt h H locs ls hS hW hl) (fun h => kf h H locs ls hS hW hl)
theorem j_if_ne (B : pgB p m c s args meth own cc nL D tys A) {x : Int32} {off : Int} (tgt : Nat) (hdg : decode cc pc = .ok (.ifCond .ne off, 3)) (ht : (pc : Int) + off = (tgt : Int)) (kt : ¬ x = 0 → pgJ p l e R s m args below meth c nL A (Wd) (cells) (slots) (Q) (tgt) (L) (st)) (kf : x = 0 → pgJ p l e R s m args below meth c nL A (Wd) (cells) (slots) (Q) (pc + 3) (L) (st)) : pgJ p l e R s m args below meth c nL A (Wd) (cells) (slots) (Q) (pc) (L) (.int x :: st) := fun H locs ls hS hW hl => lv_if_ne B.1 B.2.1 hdg ht (fun h => kt h H locs ls hS hW hl) (fun h => kf h H locs ls hS hW hl)
theorem j_if_lt (B : pgB p m c s args meth own cc nL D tys A) {x : Int32} {off : Int} (tgt : Nat) (hdg : decode cc pc = .ok (.ifCond .lt off, 3)) (ht : (pc : Int) + off = (tgt : Int)) (kt : x < 0 → pgJ p l e R s m args below meth c nL A (Wd) (cells) (slots) (Q) (tgt) (L) (st)) (kf : ¬ x < 0 → pgJ p l e R s m args below meth c nL A (Wd) (cells) (slots) (Q) (pc + 3) (L) (st)) : pgJ p l e R s m args below meth c nL A (Wd) (cells) (slots) (Q) (pc) (L) (.int x :: st) := fun H locs ls hS hW hl => lv_if_lt B.1 B.2.1 hdg ht (fun h => kt h H locs ls hS hW hl) (fun h => kf h H locs ls hS hW hl)
theorem j_if_ge (B : pgB p m c s args meth own cc nL D tys A) {x : Int32} {off : Int} (tgt : Nat) (hdg : decode cc pc = .ok (.ifCond .ge off, 3)) (ht : (pc : Int) + off = (tgt : Int)) (kt : 0 ≤ x → pgJ p l e R s m args below meth c nL A (Wd) (cells) (slots) (Q) (tgt) (L) (st)) (kf : ¬ 0 ≤ x → pgJ p l e R s m args below meth c nL A (Wd) (cells) (slots) (Q) (pc + 3) (L) (st)) : pgJ p l e R s m args below meth c nL A (Wd) (cells) (slots) (Q) (pc) (L) (.int x :: st) := fun H locs ls hS hW hl => lv_if_ge B.1 B.2.1 hdg ht (fun h => kt h H locs ls hS hW hl) (fun h => kf h H locs ls hS hW hl)
theorem j_if_gt (B : pgB p m c s args meth own cc nL D tys A) {x : Int32} {off : Int} (tgt : Nat) (hdg : decode cc pc = .ok (.ifCond .gt off, 3)) (ht : (pc : Int) + off = (tgt : Int)) (kt : 0 < x → pgJ p l e R s m args below meth c nL A (Wd) (cells) (slots) (Q) (tgt) (L) (st)) (kf : ¬ 0 < x → pgJ p l e R s m args below meth c nL A (Wd) (cells) (slots) (Q) (pc + 3) (L) (st)) : pgJ p l e R s m args below meth c nL A (Wd) (cells) (slots) (Q) (pc) (L) (.int x :: st) := fun H locs ls hS hW hl => lv_if_gt B.1 B.2.1 hdg ht (fun h => kt h H locs ls hS hW hl) (fun h => kf h H locs ls hS hW hl)
theorem j_if_le (B : pgB p m c s args meth own cc nL D tys A) {x : Int32} {off : Int} (tgt : Nat) (hdg : decode cc pc = .ok (.ifCond .le off, 3)) (ht : (pc : Int) + off = (tgt : Int)) (kt : x ≤ 0 → pgJ p l e R s m args below meth c nL A (Wd) (cells) (slots) (Q) (tgt) (L) (st)) (kf : ¬ x ≤ 0 → pgJ p l e R s m args below meth c nL A (Wd) (cells) (slots) (Q) (pc + 3) (L) (st)) : pgJ p l e R s m args below meth c nL A (Wd) (cells) (slots) (Q) (pc) (L) (.int x :: st) := fun H locs ls hS hW hl => lv_if_le B.1 B.2.1 hdg ht (fun h => kt h H locs ls hS hW hl) (fun h => kf h H locs ls hS hW hl)
theorem j_icmp_eq (B : pgB p m c s args meth own cc nL D tys A) {x y : Int32} {off : Int} (tgt : Nat) (hdg : decode cc pc = .ok (.if_icmp .eq off, 3)) (ht : (pc : Int) + off = (tgt : Int)) (kt : x = y → pgJ p l e R s m args below meth c nL A (Wd) (cells) (slots) (Q) (tgt) (L) (st)) (kf : ¬ x = y → pgJ p l e R s m args below meth c nL A (Wd) (cells) (slots) (Q) (pc + 3) (L) (st)) : pgJ p l e R s m args below meth c nL A (Wd) (cells) (slots) (Q) (pc) (L) (.int y :: .int x :: st) := fun H locs ls hS hW hl => lv_icmp_eq B.1 B.2.1 hdg ht (fun h => kt h H locs ls hS hW hl) (fun h => kf h H locs ls hS hW hl)
theorem j_icmp_ne (B : pgB p m c s args meth own cc nL D tys A) {x y : Int32} {off : Int} (tgt : Nat) (hdg : decode cc pc = .ok (.if_icmp .ne off, 3)) (ht : (pc : Int) + off = (tgt : Int)) (kt : ¬ x = y → pgJ p l e R s m args below meth c nL A (Wd) (cells) (slots) (Q) (tgt) (L) (st)) (kf : x = y → pgJ p l e R s m args below meth c nL A (Wd) (cells) (slots) (Q) (pc + 3) (L) (st)) : pgJ p l e R s m args below meth c nL A (Wd) (cells) (slots) (Q) (pc) (L) (.int y :: .int x :: st) := fun H locs ls hS hW hl => lv_icmp_ne B.1 B.2.1 hdg ht (fun h => kt h H locs ls hS hW hl) (fun h => kf h H locs ls hS hW hl)
theorem j_icmp_lt (B : pgB p m c s args meth own cc nL D tys A) {x y : Int32} {off : Int} (tgt : Nat) (hdg : decode cc pc = .ok (.if_icmp .lt off, 3)) (ht : (pc : Int) + off = (tgt : Int)) (kt : x < y → pgJ p l e R s m args below meth c nL A (Wd) (cells) (slots) (Q) (tgt) (L) (st)) (kf : ¬ x < y → pgJ p l e R s m args below meth c nL A (Wd) (cells) (slots) (Q) (pc + 3) (L) (st)) : pgJ p l e R s m args below meth c nL A (Wd) (cells) (slots) (Q) (pc) (L) (.int y :: .int x :: st) := fun H locs ls hS hW hl => lv_icmp_lt B.1 B.2.1 hdg ht (fun h => kt h H locs ls hS hW hl) (fun h => kf h H locs ls hS hW hl)
theorem j_icmp_ge (B : pgB p m c s args meth own cc nL D tys A) {x y : Int32} {off : Int} (tgt : Nat) (hdg : decode cc pc = .ok (.if_icmp .ge off, 3)) (ht : (pc : Int) + off = (tgt : Int)) (kt : y ≤ x → pgJ p l e R s m args below meth c nL A (Wd) (cells) (slots) (Q) (tgt) (L) (st)) (kf : ¬ y ≤ x → pgJ p l e R s m args below meth c nL A (Wd) (cells) (slots) (Q) (pc + 3) (L) (st)) : pgJ p l e R s m args below meth c nL A (Wd) (cells) (slots) (Q) (pc) (L) (.int y :: .int x :: st) := fun H locs ls hS hW hl => lv_icmp_ge B.1 B.2.1 hdg ht (fun h => kt h H locs ls hS hW hl) (fun h => kf h H locs ls hS hW hl)
theorem j_icmp_gt (B : pgB p m c s args meth own cc nL D tys A) {x y : Int32} {off : Int} (tgt : Nat) (hdg : decode cc pc = .ok (.if_icmp .gt off, 3)) (ht : (pc : Int) + off = (tgt : Int)) (kt : y < x → pgJ p l e R s m args below meth c nL A (Wd) (cells) (slots) (Q) (tgt) (L) (st)) (kf : ¬ y < x → pgJ p l e R s m args below meth c nL A (Wd) (cells) (slots) (Q) (pc + 3) (L) (st)) : pgJ p l e R s m args below meth c nL A (Wd) (cells) (slots) (Q) (pc) (L) (.int y :: .int x :: st) := fun H locs ls hS hW hl => lv_icmp_gt B.1 B.2.1 hdg ht (fun h => kt h H locs ls hS hW hl) (fun h => kf h H locs ls hS hW hl)
theorem j_icmp_le (B : pgB p m c s args meth own cc nL D tys A) {x y : Int32} {off : Int} (tgt : Nat) (hdg : decode cc pc = .ok (.if_icmp .le off, 3)) (ht : (pc : Int) + off = (tgt : Int)) (kt : x ≤ y → pgJ p l e R s m args below meth c nL A (Wd) (cells) (slots) (Q) (tgt) (L) (st)) (kf : ¬ x ≤ y → pgJ p l e R s m args below meth c nL A (Wd) (cells) (slots) (Q) (pc + 3) (L) (st)) : pgJ p l e R s m args below meth c nL A (Wd) (cells) (slots) (Q) (pc) (L) (.int y :: .int x :: st) := fun H locs ls hS hW hl => lv_icmp_le B.1 B.2.1 hdg ht (fun h => kt h H locs ls hS hW hl) (fun h => kf h H locs ls hS hW hl)
theorem pg_one {ws : Nat × va_E} {H : Heap} (h : va_at D vwCl ws H) : va_P D vwCl [ws] H := fun k q hk => by
  have hz : k < 1 := (List.getElem?_eq_some_iff.mp hk).1
  rw [show k = 0 by omega] at hk
  cases hk
  exact h
theorem j_get (B : pgB p m c s args meth own cc nL D tys A) {C ref : String} {T : u_T} {N ci index : Nat} {a : Nat} {fs : List Value} {v : Value} (hin : ∀ w ∈ u_ws C T N, w ∈ pgWd) (hc : vwCl[ci]? = some (C, T, N)) (hat : ∀ H, Wd H → va_at D vwCl (a, .inr (ci, fs)) H) (k : Nat) (hk : k < N) (hq : Cond.fieldLink own index ref (T k).2.1 (T k).2.2.1 ∈ pgWd) (href : (T k).1 = ref) (hv : fs[k]? = some v) (hdg : decode cc pc = .ok (.getfield index, 3)) (kk : pgJ p l e R s m args below meth c nL A (Wd) (cells) (slots) (Q) (pc + 3) (L) (v :: st)) : pgJ p l e R s m args below meth c nL A (Wd) (cells) (slots) (Q) (pc) (L) (.ref a :: st) := fun H locs ls hS hW hl => va_get B.1 B.2.1 B.2.2.2.2.1 hin B.2.2.2.1 B.2.2.2.2.2.2.1 (pg_one (hat H hW)) 0 rfl hc k hk (B.2.2.2.2.1 _ hq) (fun x h => by rw [← href]; exact h) hv hdg (kk H locs ls hS hW hl)
theorem j_put (B : pgB p m c s args meth own cc nL D tys A) {C ref : String} {T : u_T} {N ci index : Nat} {a : Nat} {fs : List Value} {v : Value} {ty : FieldType} (hin : ∀ w ∈ u_ws C T N, w ∈ pgWd) (ty0 : Nat → FieldType) (hty : ∀ k, k < N → parseFieldDescriptor (T k).2.2.1 = some (ty0 k)) (hnm : ∀ a, a < N → ∀ b, b < N → a ≠ b → (T a).2.1 ≠ (T b).2.1) (hc : vwCl[ci]? = some (C, T, N)) (hat : ∀ H, Wd H → va_at D vwCl (a, .inr (ci, fs)) H) (k : Nat) (hk : k < N) (hq : Cond.fieldLink own index ref (T k).2.1 (T k).2.2.1 ∈ pgWd) (href : (T k).1 = ref) (hfin : (T k).2.2.2 = false) (hd : parseFieldDescriptor (T k).2.2.1 = some ty) (hn : narrow ty v = v) (hfit : fits ty v = true) (hl : k < fs.length) (hdg : decode cc pc = .ok (.putfield index, 3)) (hA : A a) (step : ∀ (H H1 : Heap), Wd H → va_at D vwCl (a, .inr (ci, fs.set k v)) H1 → H1.size = H.size → (∀ q : Nat, q ≠ a → H1[q]? = H[q]?) → Wd' H1) (kk : pgJ p l e R s m args below meth c nL A (Wd') (cells) (slots) (Q) (pc + 3) (L) (st)) : pgJ p l e R s m args below meth c nL A (Wd) (cells) (slots) (Q) (pc) (L) (v :: .ref a :: st) := by
  intro H locs ls hS hW hll
  obtain ⟨hx, hb, -, hown, hts, -, hE⟩ := B
  have hK := hE.1
  have hap := va_apart (own := own) hts hin ty0 hty hnm hK hc
  obtain ⟨r, h1, cell, q1, q2, q3, q4⟩ := hat H hW
  have hr : r = (C, T, N) := Option.some.inj (h1.symm.trans hc)
  subst hr
  obtain ⟨hSl, hfc, kC, hkC, hkind⟩ := hK.1 ci _ hc
  obtain ⟨cf, kf, fi, f, hi, hsl⟩ := hSl k hk
  have hlay := hts _ (hin _ (u_in_lay hk))
  unfold u_lay at hlay
  rw [if_neg (by rw [hfin]; decide)] at hlay
  have hst := (u_facts hfc hkC (u_lays hts hin hk) hi).1
  have h6 := u_store hfc hkC hkind hlay hi hd hn hfit
  refine W.putK hx hb (f := f) ⟨hown, hts _ hq, ⟨_, _, _, by rw [← href]; exact hi⟩, hst⟩ (by rw [q2]; exact h6) q1 q3 (by rw [hsl]; exact k2_hasslot (q4 k hk)) rfl rfl hdg fun H' e1 e2 e3 => ?_
  rw [hsl] at e1 ⊢
  exact kk H' _ ls (hS.put e2 e3 hA) (step H H' hW ⟨_, hc, t_OB.to (V := updV (vp_V fs) k v) ⟨_, e1, q2, q3, t_set q4 hap hk v⟩ (fun j _ => vp_updV_set hl v j)⟩ e2 e3) hll
theorem j_putF (B : pgB p m c s args meth own cc nL D tys A) {C ref : String} {T : u_T} {N ci index : Nat} {a : Nat} {fs : List Value} {v : Value} {ty : FieldType} (hin : ∀ w ∈ u_ws C T N, w ∈ pgWd) (ty0 : Nat → FieldType) (hty : ∀ k, k < N → parseFieldDescriptor (T k).2.2.1 = some (ty0 k)) (hnm : ∀ a, a < N → ∀ b, b < N → a ≠ b → (T a).2.1 ≠ (T b).2.1) (hc : vwCl[ci]? = some (C, T, N)) (hat : ∀ H, Wd H → va_at D vwCl (a, .inr (ci, fs)) H) (k : Nat) (hk : k < N) (hq : Cond.fieldLink own index ref (T k).2.1 (T k).2.2.1 ∈ pgWd) (href : (T k).1 = ref) (hfin : (T k).2.2.2 = true) (hin2 : meth.name = "<init>") (hdecl : (T k).1 = own) (hd : parseFieldDescriptor (T k).2.2.1 = some ty) (hn : narrow ty v = v) (hfit : fits ty v = true) (hl : k < fs.length) (hdg : decode cc pc = .ok (.putfield index, 3)) (hA : A a) (step : ∀ (H H1 : Heap), Wd H → va_at D vwCl (a, .inr (ci, fs.set k v)) H1 → H1.size = H.size → (∀ q : Nat, q ≠ a → H1[q]? = H[q]?) → Wd' H1) (kk : pgJ p l e R s m args below meth c nL A (Wd') (cells) (slots) (Q) (pc + 3) (L) (st)) : pgJ p l e R s m args below meth c nL A (Wd) (cells) (slots) (Q) (pc) (L) (v :: .ref a :: st) := by
  intro H locs ls hS hW hll
  obtain ⟨hx, hb, -, hown, hts, -, hE⟩ := B
  have hK := hE.1
  have hap := va_apart (own := own) hts hin ty0 hty hnm hK hc
  obtain ⟨r, h1, cell, q1, q2, q3, q4⟩ := hat H hW
  have hr : r = (C, T, N) := Option.some.inj (h1.symm.trans hc)
  subst hr
  obtain ⟨hSl, hfc, kC, hkC, hkind⟩ := hK.1 ci _ hc
  obtain ⟨cf, kf, fi, f, hi, hsl⟩ := hSl k hk
  have hlay := hts _ (hin _ (u_in_lay hk))
  unfold u_lay at hlay
  rw [if_pos hfin] at hlay
  have hst := (u_facts hfc hkC (u_lays hts hin hk) hi).1
  have hcf : m.cls = cf := by
    obtain ⟨_, _, c', _, _, _, -, -, hf', -, -, -, hown2, -⟩ := Cond.laysFinal_spec hlay
    have e1 : c' = cf := by have := hi.symm.trans hf'; simp at this; exact this.1.symm
    rw [hdecl] at hown2
    rw [← e1]; exact Option.some.inj (hown.symm.trans hown2)
  have h6 := u_fits hfc hkC hkind (Or.inr hlay) hi hd hn hfit
  refine W.putFinK hx hb hown (hts _ hq) (by rw [← href]; exact hi) hst hcf hin2 (by rw [q2]; exact h6) q1 q3 (by rw [hsl]; exact k2_hasslot (q4 k hk)) rfl rfl hdg fun H' e1 e2 e3 => ?_
  rw [hsl] at e1 ⊢
  exact kk H' _ ls (hS.put e2 e3 hA) (step H H' hW ⟨_, hc, t_OB.to (V := updV (vp_V fs) k v) ⟨_, e1, q2, q3, t_set q4 hap hk v⟩ (fun j _ => vp_updV_set hl v j)⟩ e2 e3) hll
theorem j_iald (B : pgB p m c s args meth own cc nL D tys A) {a n : Nat} {cA : ClassId} {f : Nat → Int32} (hat : ∀ H, Wd H → va_at D vwCl (a, .inl (cA, n, .inl f)) H) (t0 : Nat) (ht : tys[t0]? = some (cA, .int)) {i : Int32} (hin : vp_in i n) (hdg : decode cc pc = .ok (.iaload, 1)) (kk : pgJ p l e R s m args below meth c nL A (Wd) (cells) (slots) (Q) (pc + 1) (L) (.int (f i.toNatClampNeg) :: st)) : pgJ p l e R s m args below meth c nL A (Wd) (cells) (slots) (Q) (pc) (L) (.int i :: .ref a :: st) := fun H locs ls hS hW hl => va_iald B.1 B.2.1 B.2.2.2.2.2.2.1 (pg_one (hat H hW)) 0 t0 rfl ht hin hdg (kk H locs ls hS hW hl)
theorem j_zald (B : pgB p m c s args meth own cc nL D tys A) {a n : Nat} {cA : ClassId} {f : Nat → Int32} (hat : ∀ H, Wd H → va_at D vwCl (a, .inl (cA, n, .inl f)) H) (t0 : Nat) (ht : tys[t0]? = some (cA, .boolean)) {i : Int32} (hin : vp_in i n) (hdg : decode cc pc = .ok (.baload, 1)) (kk : pgJ p l e R s m args below meth c nL A (Wd) (cells) (slots) (Q) (pc + 1) (L) (.int (f i.toNatClampNeg) :: st)) : pgJ p l e R s m args below meth c nL A (Wd) (cells) (slots) (Q) (pc) (L) (.int i :: .ref a :: st) := fun H locs ls hS hW hl => va_zald B.1 B.2.1 B.2.2.2.2.2.2.1 (pg_one (hat H hW)) 0 t0 rfl ht hin hdg (kk H locs ls hS hW hl)
theorem j_lald (B : pgB p m c s args meth own cc nL D tys A) {a n : Nat} {cA : ClassId} {f : Nat → Int64} (hat : ∀ H, Wd H → va_at D vwCl (a, .inl (cA, n, .inr (.inl f))) H) (t0 : Nat) (ht : tys[t0]? = some (cA, .long)) {i : Int32} (hin : vp_in i n) (hdg : decode cc pc = .ok (.laload, 1)) (kk : pgJ p l e R s m args below meth c nL A (Wd) (cells) (slots) (Q) (pc + 1) (L) (.long (f i.toNatClampNeg) :: st)) : pgJ p l e R s m args below meth c nL A (Wd) (cells) (slots) (Q) (pc) (L) (.int i :: .ref a :: st) := fun H locs ls hS hW hl => va_lald B.1 B.2.1 B.2.2.2.2.2.2.1 (pg_one (hat H hW)) 0 t0 rfl ht hin hdg (kk H locs ls hS hW hl)
theorem j_aald (B : pgB p m c s args meth own cc nL D tys A) {a n : Nat} {cA : ClassId} {C : String} {f : Nat → Option Nat} (hat : ∀ H, Wd H → va_at D vwCl (a, .inl (cA, n, .inr (.inr (.inr (.inr f))))) H) (t0 : Nat) (ht : tys[t0]? = some (cA, .object C)) {i : Int32} (hin : vp_in i n) (hdg : decode cc pc = .ok (.aaload, 1)) (kn : f i.toNatClampNeg = none → pgJ p l e R s m args below meth c nL A (Wd) (cells) (slots) (Q) (pc + 1) (L) (.null :: st)) (kr : ∀ y : Nat, f i.toNatClampNeg = some y → pgJ p l e R s m args below meth c nL A (Wd) (cells) (slots) (Q) (pc + 1) (L) (.ref y :: st)) : pgJ p l e R s m args below meth c nL A (Wd) (cells) (slots) (Q) (pc) (L) (.int i :: .ref a :: st) := by
  intro H locs ls hS hW hl
  refine va_aldq B.1 B.2.1 B.2.2.2.2.2.2.1 (pg_one (hat H hW)) 0 t0 rfl ht hin hdg ?_
  cases hf : f i.toNatClampNeg with
  | none => exact kn hf H locs ls hS hW hl
  | some y => exact kr y hf H locs ls hS hW hl
theorem j_alen (B : pgB p m c s args meth own cc nL D tys A) {a : Nat} {cA : ClassId} {x : vp_A} (hat : ∀ H, Wd H → va_at D vwCl (a, .inl (cA, x)) H) (t0 : Nat) {ty : FieldType} (ht : tys[t0]? = some (cA, ty)) {v : Int32} (hv : Int32.ofNat x.1 = v) (hdg : decode cc pc = .ok (.arraylength, 1)) (kk : pgJ p l e R s m args below meth c nL A (Wd) (cells) (slots) (Q) (pc + 1) (L) (.int v :: st)) : pgJ p l e R s m args below meth c nL A (Wd) (cells) (slots) (Q) (pc) (L) (.ref a :: st) := fun H locs ls hS hW hl => va_alen B.1 B.2.1 B.2.2.2.2.2.2.1 (pg_one (hat H hW)) 0 t0 rfl ht hv hdg (kk H locs ls hS hW hl)
theorem j_iast (B : pgB p m c s args meth own cc nL D tys A) {a n : Nat} {cA : ClassId} {f : Nat → Int32} (hat : ∀ H, Wd H → va_at D vwCl (a, .inl (cA, n, .inl f)) H) (t0 : Nat) (ht : tys[t0]? = some (cA, .int)) {i : Int32} {x : Int32} (hin : vp_in i n) (hdg : decode cc pc = .ok (.iastore, 1)) (hA : A a) (step : ∀ (H H1 : Heap), Wd H → va_at D vwCl (a, .inl (cA, n, .inl (upd f i.toNatClampNeg x))) H1 → H1.size = H.size → (∀ q : Nat, q ≠ a → H1[q]? = H[q]?) → Wd' H1) (kk : pgJ p l e R s m args below meth c nL A (Wd') (cells) (slots) (Q) (pc + 1) (L) (st)) : pgJ p l e R s m args below meth c nL A (Wd) (cells) (slots) (Q) (pc) (L) (.int x :: .int i :: .ref a :: st) := by
  intro H locs ls hS hW hll
  obtain ⟨hx, hb, -, hown, hts, -, hE⟩ := B
  have hK := hE.1
  have h0 := hat H hW
  refine W.iast hx hb h0 ((hK.2 t0 _ ht).1 n (fun j => .int (f j))) (fun q => by cases q) (by show ¬ (i < 0 ∨ (arrV _ _ _).slots.size ≤ _); rw [arrV_size]; exact hin) rfl rfl hdg fun H1 e z oq => ?_
  refine kk H1 _ ls (hS.put z oq hA) (step H H1 hW ?_ z oq) hll
  show H1[a]? = some (vp_cell _ _)
  rw [e]
  rw [vp_cell_i, vp_cell_i, arrV_store]
  congr 2
  funext q
  by_cases hq : q = i.toNatClampNeg
  · subst hq
    simp [updV, upd]
    try rfl
  · simp [updV, upd, hq]
theorem j_zast (B : pgB p m c s args meth own cc nL D tys A) {a n : Nat} {cA : ClassId} {f : Nat → Int32} (hat : ∀ H, Wd H → va_at D vwCl (a, .inl (cA, n, .inl f)) H) (t0 : Nat) (ht : tys[t0]? = some (cA, .boolean)) {i : Int32} {x : Int32} (hin : vp_in i n) (hdg : decode cc pc = .ok (.bastore, 1)) (hA : A a) (step : ∀ (H H1 : Heap), Wd H → va_at D vwCl (a, .inl (cA, n, .inl (upd f i.toNatClampNeg (vp_nar .boolean x)))) H1 → H1.size = H.size → (∀ q : Nat, q ≠ a → H1[q]? = H[q]?) → Wd' H1) (kk : pgJ p l e R s m args below meth c nL A (Wd') (cells) (slots) (Q) (pc + 1) (L) (st)) : pgJ p l e R s m args below meth c nL A (Wd) (cells) (slots) (Q) (pc) (L) (.int x :: .int i :: .ref a :: st) := by
  intro H locs ls hS hW hll
  obtain ⟨hx, hb, -, hown, hts, -, hE⟩ := B
  have hK := hE.1
  have h0 := hat H hW
  refine W.zast hx hb h0 ((hK.2 t0 _ ht).1 n (fun j => .int (f j))) (fun q => by cases q) (by show ¬ (i < 0 ∨ (arrV _ _ _).slots.size ≤ _); rw [arrV_size]; exact hin) rfl rfl hdg fun H1 e z oq => ?_
  refine kk H1 _ ls (hS.put z oq hA) (step H H1 hW ?_ z oq) hll
  show H1[a]? = some (vp_cell _ _)
  rw [e]
  rw [vp_cell_i, vp_cell_i, arrV_store]
  congr 2
  funext q
  by_cases hq : q = i.toNatClampNeg
  · subst hq
    simp [updV, upd, vp_nar]
    try rfl
  · simp [updV, upd, vp_nar, hq]
theorem j_last (B : pgB p m c s args meth own cc nL D tys A) {a n : Nat} {cA : ClassId} {f : Nat → Int64} (hat : ∀ H, Wd H → va_at D vwCl (a, .inl (cA, n, .inr (.inl f))) H) (t0 : Nat) (ht : tys[t0]? = some (cA, .long)) {i : Int32} {x : Int64} (hin : vp_in i n) (hdg : decode cc pc = .ok (.lastore, 1)) (hA : A a) (step : ∀ (H H1 : Heap), Wd H → va_at D vwCl (a, .inl (cA, n, .inr (.inl (vp_updL f i.toNatClampNeg x)))) H1 → H1.size = H.size → (∀ q : Nat, q ≠ a → H1[q]? = H[q]?) → Wd' H1) (kk : pgJ p l e R s m args below meth c nL A (Wd') (cells) (slots) (Q) (pc + 1) (L) (st)) : pgJ p l e R s m args below meth c nL A (Wd) (cells) (slots) (Q) (pc) (L) (.long x :: .int i :: .ref a :: st) := by
  intro H locs ls hS hW hll
  obtain ⟨hx, hb, -, hown, hts, -, hE⟩ := B
  have hK := hE.1
  have h0 := hat H hW
  refine W.last hx hb h0 ((hK.2 t0 _ ht).1 n (fun j => .long (f j))) (fun q => by cases q) (by show ¬ (i < 0 ∨ (arrV _ _ _).slots.size ≤ _); rw [arrV_size]; exact hin) rfl rfl hdg fun H1 e z oq => ?_
  refine kk H1 _ ls (hS.put z oq hA) (step H H1 hW ?_ z oq) hll
  show H1[a]? = some (vp_cell _ _)
  rw [e]
  rw [vp_cell_l, vp_cell_l, arrV_store]
  congr 2
  funext q
  by_cases hq : q = i.toNatClampNeg
  · subst hq
    simp [updV, vp_updL]
    try rfl
  · simp [updV, vp_updL, hq]
theorem j_aast (B : pgB p m c s args meth own cc nL D tys A) {a n v : Nat} {cA : ClassId} {ci : Nat} {r : vw_C} {vs : List Value} {f : Nat → Option Nat} (hat : ∀ H, Wd H → va_at D vwCl (a, .inl (cA, n, .inr (.inr (.inr (.inr f))))) H) (t0 : Nat) (ht : tys[t0]? = some (cA, .object r.1)) (hv : ∀ H, Wd H → va_at D vwCl (v, .inr (ci, vs)) H) (hc : vwCl[ci]? = some r) {i : Int32} (hin : vp_in i n) (hdg : decode cc pc = .ok (.aastore, 1)) (hA : A a) (step : ∀ (H H1 : Heap), Wd H → va_at D vwCl (a, .inl (cA, n, .inr (.inr (.inr (.inr (va_up f i.toNatClampNeg (some v))))))) H1 → H1.size = H.size → (∀ q : Nat, q ≠ a → H1[q]? = H[q]?) → Wd' H1) (kk : pgJ p l e R s m args below meth c nL A (Wd') (cells) (slots) (Q) (pc + 1) (L) (st)) : pgJ p l e R s m args below meth c nL A (Wd) (cells) (slots) (Q) (pc) (L) (.ref v :: .int i :: .ref a :: st) := by
  intro H locs ls hS hW hll
  obtain ⟨hx, hb, -, hown, hts, -, hE⟩ := B
  have hK := hE.1
  have hlt : i.toNatClampNeg < n := Nat.not_le.mp fun q => hin (Or.inr q)
  have h0 : ¬ i < 0 := fun q => hin (Or.inl q)
  obtain ⟨r', hr', cellV, g1, g2, g3, -⟩ := hv H hW
  have hcls := (hK.1 ci r hc).2
  obtain ⟨kA, comp, k1, k2, k3, -⟩ := (hK.2 t0 _ ht).2
  have hcomp : comp = D.1 ci := Option.some.inj (k3.symm.trans hcls.1)
  subst hcomp
  obtain ⟨kC, hkC, -⟩ := hcls.2
  refine W.aast hx hb (hat H hW) (fun q h => by cases h) (fun h => by cases h) k1 k2 rfl hkC ⟨h0, by show _ < (arrV _ _ _).slots.size; rw [arrV_size]; exact hlt⟩ g1 (fun q h => by rw [g3] at h; cases h) (by rw [g2]; exact hkC) (by rw [g2]; exact va_assign hcls) rfl rfl hdg fun H1 e z oq => ?_
  refine kk H1 _ ls (hS.put z oq hA) (step H H1 hW ?_ z oq) hll
  show H1[a]? = some (vp_cell _ _)
  rw [e]
  rw [vp_cell_q, vp_cell_q, arrV_store]
  congr 2
  funext q
  by_cases hq : q = i.toNatClampNeg
  · subst hq
    simp [updV, va_up, va_rf]
  · simp [updV, va_up, hq]
theorem j_world (h : ∀ H, Wd H → Wd' H) (kk : pgJ p l e R s m args below meth c nL A (Wd') (cells) (slots) (Q) (pc) (L) (st)) : pgJ p l e R s m args below meth c nL A (Wd) (cells) (slots) (Q) (pc) (L) (st) := fun H locs ls hS hW hl => kk H locs ls hS (h H hW) hl
theorem j_stack {st2 : List Value} (h : stk = st2) (kk : pgJ p l e R s m args below meth c nL A (Wd) (cells) (slots) (Q) (pc) (L) (st2)) : pgJ p l e R s m args below meth c nL A (Wd) (cells) (slots) (Q) (pc) (L) (stk) := h ▸ kk
theorem j_widen {k n : Nat} (h1 : cells ≤ k) (h2 : slots ≤ n) (kk : pgJ p l e R s m args below meth c nL A (Wd) (k) (n) (Q) (pc) (L) (st)) : pgJ p l e R s m args below meth c nL A (Wd) (cells) (slots) (Q) (pc) (L) (st) := fun H locs ls hS hW hl => W.widen h1 h2 (kk H locs ls hS hW hl)
theorem j_locals (ks : List Nat) (h : lv_pick L ks = L') (kk : pgJ p l e R s m args below meth c nL A (Wd) (cells) (slots) (Q) (pc) (L') (st)) : pgJ p l e R s m args below meth c nL A (Wd) (cells) (slots) (Q) (pc) (L) (st) := fun H locs ls hS hW hl => kk H locs ls hS hW (lv_sub hl ks h)
theorem j_fact {P : Prop} (h : ∀ H, Wd H → P) (kk : P → pgJ p l e R s m args below meth c nL A (Wd) (cells) (slots) (Q) (pc) (L) (st)) : pgJ p l e R s m args below meth c nL A (Wd) (cells) (slots) (Q) (pc) (L) (st) := fun H locs ls hS hW hl => kk (h H hW) H locs ls hS hW hl
end PGJ
end
section
theorem pgGV {y : MethodName} {idx : Nat} {own C : String} {bytes : ByteArray} {maxL : Nat} {ret : Option FieldType} (q1 : Cond.methodLink own idx y ∈ pgWd) (q2 : Cond.instanceMethod y ∈ pgWd) (q3 : Cond.selects C y y ∈ pgWd) (q4 : Cond.initialized C ∈ pgWd) (q5 : Cond.code y bytes maxL ret ∈ pgWd) : GoodIn pgWd (wsV own idx C y (.code y bytes maxL ret :: pgWd)) := by
  intro w hw
  have hm : w ∈ pgWd := by
    simp only [wsV, List.cons_append, List.nil_append, List.mem_cons] at hw
    rcases hw with rfl | rfl | rfl | rfl | rfl | h
    · exact q1
    · exact q2
    · exact q3
    · exact q4
    · exact q5
    · exact h
  exact ⟨hm, good_of_word (List.mem_filter.mp hm).2⟩
theorem pgGS {y : MethodName} {idx : Nat} {own : String} {w0 : Cond} (q1 : Cond.methodLink own idx y ∈ pgWd) (q2 : Cond.static y ∈ pgWd) (q3 : Cond.initialized y.cls ∈ pgWd) (q5 : w0 ∈ pgWd) : GoodIn pgWd (va_wsS own idx y (w0 :: pgWd)) := by
  intro w hw
  have hm : w ∈ pgWd := by
    simp only [va_wsS, List.cons_append, List.nil_append, List.mem_cons] at hw
    rcases hw with rfl | rfl | rfl | rfl | h
    · exact q1
    · exact q2
    · exact q3
    · exact q5
    · exact h
  exact ⟨hm, good_of_word (List.mem_filter.mp hm).2⟩
theorem pgGI {w0 : Cond} (q5 : w0 ∈ pgWd) : GoodIn pgWd (w0 :: pgWd) := by
  intro w hw
  have hm : w ∈ pgWd := by
    rcases List.mem_cons.mp hw with rfl | h
    · exact q5
    · exact h
  exact ⟨hm, good_of_word (List.mem_filter.mp hm).2⟩
theorem pg_narrowAt {D : va_G} {tys : List (ClassId × FieldType)} {A A1 : Nat → Prop} {s U : State} {H : Heap} {locs : List Loc} (h : pgE D tys A s) (hS : va_S A s.heap H locs) (hU : U.heap = H) (hW : s.WarmedH U.vm) (hA : ∀ q, A1 q → A q) (hN : ∀ q : Nat, H.size ≤ q → A q → A1 q) : pgE D tys A1 U :=
  (h.at hS hU hW).narrow hA (fun q hq => hN q (by rw [← hU]; exact hq) ((h.at hS hU hW).2.2.2.2.2 q hq))
section PGC
variable {p : Program} {l : Launch} {e : Env} {R : Room} {s : State} {m : MethodId} {args : Array Value} {below : List Frame} {meth : Method} {c : Code} {own : String} {cc : ByteArray} {nL : Nat} {D : va_G} {tys : List (ClassId × FieldType)} {A : Nat → Prop} {Wd : Heap → Prop} {cells slots : Nat} {Q : State → Prop} {pc : Nat} {L : List (Nat × Value)} {st stk : List Value}
theorem pg_enter {l : Launch} {y : MethodName} {bytes : ByteArray} {maxL : Nat} {ret : Option FieldType} {rm : Room} {D : va_G} {tys : List (ClassId × FieldType)} {A : Nat → Prop} {Wd : Heap → Prop} {av : List Value} {Qc : Array Value → State → Outcome → State → Prop}  {mc ms : Nat} {own : String} (hy : plainName y.cls = true) (hown : y.cls = own) (hsl : (lg_sl av).length ≤ maxL)
    (body : ∀ (p : Program) (e : Env) (s : State) (m : MethodId) (below : List Frame) (meth : Method) (c : Code), pgB p m c s av.toArray meth own bytes maxL D tys A → meth.sig.returnType = ret → meth.name = y.name →  pgJ p l e rm s m av.toArray below meth c maxL A Wd 0 0 (MQ below Qc av.toArray s mc ms A) 0 (lv_args 0 av) []) : Met l y (.code y bytes maxL ret :: pgWd) rm (pgPc D tys A Wd av) Qc mc ms A := by
  refine Met.ofW (cc := bytes) (maxL := maxL) (ret := ret) hy rfl ?_
  intro p e s m args below meth c s₁ B hml hv
  obtain ⟨rfl, hE, hW⟩ := hv
  have hts := atoms_spec (ws := .code y bytes maxL ret :: pgWd) B.pre
  have hown2 : s.vm.findClass own = some m.cls := by rw [← hown]; exact findClass_of_methodNamed B.named
  rw [lg_entry_eq]
  exact body p e s m below meth c ⟨B.exec, B.bytes, hml, hown2, fun w h => hts w (List.mem_cons_of_mem _ h), B.notSynchronized, hE⟩ B.returns (name_of_methodNamed B.named B.method).1  s.heap [] _ va_S.rf hW (lv_entry av hsl)
theorem pg_enterX {l : Launch} {y : MethodName} {bytes : ByteArray} {maxL : Nat} {ret : Option FieldType} {rm : Room} {D : va_G} {tys : List (ClassId × FieldType)} {A : Nat → Prop} {Wd : Heap → Prop} {av : List Value} {Qc : Array Value → State → Outcome → State → Prop} {XC : String → State → State → Prop} {mc ms : Nat} {own : String} (hy : plainName y.cls = true) (hown : y.cls = own) (hsl : (lg_sl av).length ≤ maxL)
    (body : ∀ (p : Program) (e : Env) (s : State) (m : MethodId) (below : List Frame) (meth : Method) (c : Code), pgB p m c s av.toArray meth own bytes maxL D tys A → meth.sig.returnType = ret → meth.name = y.name → (∀ x ∈ c.exceptionTable.toList, False) → pgJ p l e rm s m av.toArray below meth c maxL A Wd 0 0 (vx_MQ below Qc XC av.toArray s mc ms A) 0 (lv_args 0 av) []) : vx_Met l y (.code y bytes maxL ret :: pgWd) rm (pgPc D tys A Wd av) Qc XC mc ms A := by
  refine vx_ofW (cc := bytes) (maxL := maxL) (ret := ret) hy rfl ?_
  intro p e s m args below meth c s₁ B hml ht hv
  obtain ⟨rfl, hE, hW⟩ := hv
  have hts := atoms_spec (ws := .code y bytes maxL ret :: pgWd) B.pre
  have hown2 : s.vm.findClass own = some m.cls := by rw [← hown]; exact findClass_of_methodNamed B.named
  rw [lg_entry_eq]
  exact body p e s m below meth c ⟨B.exec, B.bytes, hml, hown2, fun w h => hts w (List.mem_cons_of_mem _ h), B.notSynchronized, hE⟩ B.returns (name_of_methodNamed B.named B.method).1 ht s.heap [] _ va_S.rf hW (lv_entry av hsl)
theorem pg_enterW {l : Launch} {y : MethodName} {bytes : ByteArray} {maxL : Nat} {ret : Option FieldType} {hh : List (Nat × Nat × Nat × Nat)} {rm : Room} {D : va_G} {tys : List (ClassId × FieldType)} {A : Nat → Prop} {Wd : Heap → Prop} {av : List Value} {Qc : Array Value → State → Outcome → State → Prop} {mc ms : Nat} {own : String} (hy : plainName y.cls = true) (hown : y.cls = own) (hsl : (lg_sl av).length ≤ maxL)
    (body : ∀ (p : Program) (e : Env) (s : State) (m : MethodId) (below : List Frame) (meth : Method) (c : Code), pgB p m c s av.toArray meth own bytes maxL D tys A → meth.sig.returnType = ret → c.exceptionTable.toList = tableOf hh → pgJ p l e rm s m av.toArray below meth c maxL A Wd 0 0 (MQ below Qc av.toArray s mc ms A) 0 (lv_args 0 av) []) : Met l y (.codeWith y bytes maxL ret hh :: pgWd) rm (pgPc D tys A Wd av) Qc mc ms A := by
  refine va_MetW (cc := bytes) (maxL := maxL) (ret := ret) (hh := hh) hy rfl ?_
  intro p e s m args below meth c s₁ B hml hv
  obtain ⟨rfl, hE, hW⟩ := hv
  have hts := atoms_spec (ws := .codeWith y bytes maxL ret hh :: pgWd) B.pre
  have hown2 : s.vm.findClass own = some m.cls := by rw [← hown]; exact findClass_of_methodNamed B.named
  rw [lg_entry_eq]
  exact body p e s m below meth c ⟨B.exec, B.bytes, hml, hown2, fun w h => hts w (List.mem_cons_of_mem _ h), B.notSynchronized, hE⟩ B.returns (vx_table (x := y) B (hts _ List.mem_cons_self)) s.heap [] _ va_S.rf hW (lv_entry av hsl)
theorem j_iret {S : Type} {v : Int32} {ty : FieldType} {post : Int32 → S → Prop} {Wd9 : S → Heap → Prop} {mc ms : Nat} (B : pgB p m c s args meth own cc nL D tys A) (hr : meth.sig.returnType = some ty) (hn : narrow ty (.int v) = .int v) (hdg : decode cc pc = .ok (.ireturn, 1)) (hc : cells ≤ mc) (hs : slots ≤ ms) (u : S) (hpost : post v u) (hwd : ∀ H, Wd H → Wd9 u H) : pgJ p l e R s m args below meth c nL A (Wd) (cells) (slots) (MQ below (va_Qi post (fun u t => Wd9 u t.heap) A) args s mc ms A) (pc) (L) ([.int v]) := by
  intro H locs ls hS hW hl
  refine W.widen hc hs ?_
  exact W.zret B.1 B.2.1 hr hn (fun t ht hWt => ⟨⟨v, u, rfl, hpost, by show Wd9 u t.heap; rw [ht]; exact hwd H hW⟩, hS.F ht⟩) hS.2.2 hdg B.2.2.2.2.2.1
theorem j_vret {S : Type}  {post : S → Prop} {Wd9 : S → Heap → Prop} {mc ms : Nat} (B : pgB p m c s args meth own cc nL D tys A) (hr : meth.sig.returnType = none) (hdg : decode cc pc = .ok (.return_, 1)) (hc : cells ≤ mc) (hs : slots ≤ ms) (u : S) (hpost : post u) (hwd : ∀ H, Wd H → Wd9 u H) : pgJ p l e R s m args below meth c nL A (Wd) (cells) (slots) (MQ below (va_Qv post (fun u t => Wd9 u t.heap) A) args s mc ms A) (pc) (L) ([]) := by
  intro H locs ls hS hW hl
  refine W.widen hc hs ?_
  exact W.vret B.1 B.2.1 hr (fun t ht hWt => ⟨⟨u, rfl, hpost, by show Wd9 u t.heap; rw [ht]; exact hwd H hW⟩, hS.F ht⟩) hS.2.2 hdg B.2.2.2.2.2.1
theorem j_aret (B : pgB p m c s args meth own cc nL D tys A) {v : Nat} {C : String} {post : Nat → Prop} {Wd9 : Heap → Prop} {mc ms : Nat} (hr : meth.sig.returnType = some (.object C)) (hdg : decode cc pc = .ok (.areturn, 1)) (hc : cells ≤ mc) (hs : slots ≤ ms) (hpost : post v) (hwd : ∀ H, Wd H → Wd9 H) : pgJ p l e R s m args below meth c nL A (Wd) (cells) (slots) (MQ below (va_Qr (fun _ : Unit => True) (fun _ a t => post a ∧ Wd9 t.heap) A) args s mc ms A) (pc) (L) ([.ref v]) := by
  intro H locs ls hS hW hl
  refine W.widen hc hs ?_
  exact W.aret B.1 B.2.1 hr (Or.inl ⟨_, rfl⟩) (Or.inr ⟨_, rfl⟩) (fun t ht hWt => ⟨⟨(), v, rfl, trivial, hpost, by rw [ht]; exact hwd H hW⟩, hS.F ht⟩) hS.2.2 hdg B.2.2.2.2.2.1
theorem j_x {Qc : Array Value → State → Outcome → State → Prop} {XC : String → State → State → Prop} {mc ms : Nat} (kk : pgJ p l e R s m args below meth c nL A (Wd) (cells) (slots) (MQ below Qc args s mc ms A) (pc) (L) (st)) : pgJ p l e R s m args below meth c nL A (Wd) (cells) (slots) (vx_MQ below Qc XC args s mc ms A) (pc) (L) (st) := fun H locs ls hS hW hl => vx_ret (kk H locs ls hS hW hl)
theorem pg_str {D : va_G} {tys : List (ClassId × FieldType)} {A : Nat → Prop} {U : State} (h : pgE D tys A U) {is : Nat} {text : String} (hm : (is, text) ∈ pgStr) : ∃ sa : Nat, vk_R RX2 is text sa U := h.2.2.1 (is, text) hm
theorem pg_nw {D : va_G} {tys : List (ClassId × FieldType)} {A : Nat → Prop} {U : State} (h : pgE D tys A U) (a : Array Value) : ∀ w ∈ pgNw, w.before a U = true := by
  intro w hw
  have hon : w.onTables = true := by
    simp only [pgNw, List.mem_cons, List.not_mem_nil, or_false] at hw
    rcases hw with rfl | rfl | rfl | rfl | rfl | rfl | rfl <;> rfl
  exact va_Nw.use hon (h.2.2.2.1 w hw)
theorem j_throw {p : Program} {l : Launch} {e : Env} {R : Room} {s : State} {m : MethodId} {args : Array Value} {below : List Frame} {meth : Method} {c : Code} {cc : ByteArray} {nL : Nat} {D : va_G} {tys : List (ClassId × FieldType)} {A : Nat → Prop} {Wd Wd0 : Heap → Prop} {cells slots : Nat} {pc : Nat} {L : List (Nat × Value)} {st : List Value} {Qc : Array Value → State → Outcome → State → Prop} {px : Nat → Prop} {mc ms ik ic : Nat} {cls : String} (hg1 : ∀ w ∈ (vx_atS RX2 ic cls pgNm).filter goodWord, w ∈ pgWd) (hg2 : ∀ w ∈ (vx_atS RX2 ic cls pgNm).filter (fun w => !goodWord w), w ∈ pgNw) (hg3 : ∀ w ∈ Cond.classLink RX2 ik cls :: Cond.initialized cls :: vx_atS RX2 ic cls pgNm, vx_ot w = true) (hfit : Bundle.fit cls = true) (q1 : Cond.classLink RX2 ik cls ∈ pgWd) (q2 : Cond.initialized cls ∈ pgWd) (k : Nat) (hk : cls = pgExn k)
    (B : pgB p m c s args meth RX2 cc nL D tys A) (hl : l.stackTraces = false) (ht : ∀ x ∈ c.exceptionTable.toList, False) {is : Nat} {text : String} (hm : (is, text) ∈ pgStr) (d0 : decode cc pc = .ok (.new ik, 3)) (d3 : decode cc (pc + 3) = .ok (.dup, 1)) (d4 : decode cc (pc + 4) = .ok (.ldc is, 2)) (d6 : decode cc (pc + 6) = .ok (.invokespecial ic, 3)) (d9 : decode cc (pc + 9) = .ok (.athrow, 1)) (hRf : 5 < R.frames) (hRl : (st.map fun v => v.category).sum + 82 ≤ R.locals) (hRc : cells + 1 ≤ R.cells) (hRs : slots + 6 ≤ R.slots) (hc : cells + 1 ≤ mc) (hs : slots + 6 ≤ ms) (hpx : px k) (kept : ∀ (H H1 : Heap), Wd H → (∀ q : Nat, q < H.size → H1[q]? = H[q]?) → Wd0 H1) :
    pgJ p l e R s m args below meth c nL A Wd cells slots (vx_MQ below Qc (pgX A px Wd0) args s mc ms A) pc L st := by
  intro H locs ls hS hW hll
  obtain ⟨sa, hstr⟩ := pg_str B.2.2.2.2.2.2 hm
  refine vx_throwS B.1 B.2.1 hl B.2.2.2.1 hfit (by decide) (B.2.2.2.2.1 _ q1) (B.2.2.2.2.1 _ q2) hstr (vx_hat (fun w h => B.2.2.2.2.1 w (hg1 w h)) hg2 (pg_nw B.2.2.2.2.2.2 args)) hg3 B.2.2.2.2.2.2.2.1.1 B.2.2.2.2.2.2.2.1.2 hS (by rw [hll.1]; exact B.2.2.1.symm) d0 d3 d4 d6 d9 (fun x hx => (ht x hx).elim) hRf hRl hRc hRs B.2.2.2.2.2.1 (fun t hvm hz hq => ⟨k, hpx, ⟨hk, kept H t.heap hW hq⟩, Nat.le_trans hS.1 hz, fun q h1 h2 => (hq q (Nat.lt_of_lt_of_le h1 hS.1)).trans (hS.2.1 q h1 h2)⟩) hS.2.2 hc hs
theorem pgTI2 : ∀ w ∈ (vx_atS RX2 188 pgEI pgNm).filter (fun w => !goodWord w), w ∈ pgNw := by decide +kernel
theorem pgTI3 : ∀ w ∈ Cond.classLink RX2 184 pgEI :: Cond.initialized pgEI :: vx_atS RX2 188 pgEI pgNm, vx_ot w = true := by decide +kernel
theorem pgTA2 : ∀ w ∈ (vx_atS RX2 31 pgEA pgNm).filter (fun w => !goodWord w), w ∈ pgNw := by decide +kernel
theorem pgTA3 : ∀ w ∈ Cond.classLink RX2 27 pgEA :: Cond.initialized pgEA :: vx_atS RX2 31 pgEA pgNm, vx_ot w = true := by decide +kernel
theorem pgTS2 : ∀ w ∈ (vx_atS RX2 42 pgES pgNm).filter (fun w => !goodWord w), w ∈ pgNw := by decide +kernel
theorem pgTS3 : ∀ w ∈ Cond.classLink RX2 38 pgES :: Cond.initialized pgES :: vx_atS RX2 42 pgES pgNm, vx_ot w = true := by decide +kernel
theorem j_cVi (B : pgB p m c s args meth own cc nL D tys A) {S : Type} {y : MethodName} {bytes : ByteArray} {maxL : Nat} {ret : Option FieldType} {rm : Room} {idx : Nat} (n : Nat) {b : Nat} (As : List Value) {WdC : Heap → Prop} {A1 : Nat → Prop} {post : Int32 → S → Prop} {WdC' : S → Heap → Prop} (Wd' : S → Heap → Prop) (hM : Met l y (.code y bytes maxL ret :: pgWd) rm (pgPc D tys A1 WdC (.ref b :: As)) (va_Qi post (fun u t => WdC' u t.heap) A1) rm.cells rm.slots A1) {C : String} {T : u_T} {N ci : Nat} {fs : List Value} (hc : vwCl[ci]? = some (C, T, N)) (hat : ∀ H, Wd H → va_at D vwCl (b, .inr (ci, fs)) H) (q1 : Cond.methodLink own idx y ∈ pgWd) (q2 : Cond.instanceMethod y ∈ pgWd) (q3 : Cond.selects C y y ∈ pgWd) (q4 : Cond.initialized C ∈ pgWd) (q5 : Cond.code y bytes maxL ret ∈ pgWd) (hd : y.cls = C ∧ y.cls ≠ "java/lang/invoke/MethodHandle" ∧ y.cls ≠ "java/lang/invoke/VarHandle" ∧ (parseMethodDescriptor y.desc).map (fun d => d.parameters.length) = some n) (hn : As.length = n) (hR : rm.frames + 1 ≤ R.frames ∧ 8 + (maxL + 11) + rm.locals ≤ R.locals) (hcat : (st.map fun v => v.category).sum ≤ 8) (hdg : decode cc pc = .ok (.invokevirtual idx, 3)) (hstk : stk = As.reverse ++ .ref b :: st) (hcl : cells + rm.cells ≤ R.cells ∧ slots + rm.slots ≤ R.slots) (hA : ∀ q, A1 q → A q) (hN : ∀ (H : Heap), Wd H → ∀ q : Nat, H.size ≤ q → A q → A1 q) (cut : ∀ H, Wd H → WdC H) (back : ∀ (H H1 : Heap) (u : S), Wd H → WdC' u H1 → H.size ≤ H1.size → (∀ q : Nat, q < H.size → ¬ A1 q → H1[q]? = H[q]?) → Wd' u H1) (kk : ∀ (r : Int32) (u : S), post r u → pgJ p l e R s m args below meth c nL A (Wd' u) (cells + rm.cells) (slots + rm.slots) (Q) (pc + 3) (L) (.int r :: st)) : pgJ p l e R s m args below meth c nL A (Wd) (cells) (slots) (Q) (pc) (L) (stk) := by
  subst hstk
  intro H locs ls hS hW hl
  exact va_calli (va_runV (As := As) (rest := st) ⟨B.1, B.2.1, B.2.2.1, B.2.2.2.1, B.2.2.2.2.1⟩ hM (cwV n B.2.2.2.2.1 (pgGV q1 q2 q3 q4 q5) rfl rfl rfl hd hR) ⟨pgBlind, va_recv B.2.2.2.2.2.2.1 (pg_one (hat H hW)) hc (q0 := 0) rfl, (fun U hU hWm => ⟨rfl, pg_narrowAt B.2.2.2.2.2.2 hS hU hWm hA (hN H hW), by rw [hU]; exact cut H hW⟩)⟩ rfl hn hl.1 rfl (lv_room hcat) hdg hcl) hS (fun q _ h => hA q h) hA (fun r u t H1 locs1 ht hvm hp hB hz hk hS1 => kk r u hp H1 locs1 ls hS1 (back H H1 u hW (by rw [← ht]; exact hB) hz hk) hl)
theorem j_cVv (B : pgB p m c s args meth own cc nL D tys A) {S : Type} {y : MethodName} {bytes : ByteArray} {maxL : Nat} {ret : Option FieldType} {rm : Room} {idx : Nat} (n : Nat) {b : Nat} (As : List Value) {WdC : Heap → Prop} {A1 : Nat → Prop} {post : S → Prop} {WdC' : S → Heap → Prop} (Wd' : S → Heap → Prop) (hM : Met l y (.code y bytes maxL ret :: pgWd) rm (pgPc D tys A1 WdC (.ref b :: As)) (va_Qv post (fun u t => WdC' u t.heap) A1) rm.cells rm.slots A1) {C : String} {T : u_T} {N ci : Nat} {fs : List Value} (hc : vwCl[ci]? = some (C, T, N)) (hat : ∀ H, Wd H → va_at D vwCl (b, .inr (ci, fs)) H) (q1 : Cond.methodLink own idx y ∈ pgWd) (q2 : Cond.instanceMethod y ∈ pgWd) (q3 : Cond.selects C y y ∈ pgWd) (q4 : Cond.initialized C ∈ pgWd) (q5 : Cond.code y bytes maxL ret ∈ pgWd) (hd : y.cls = C ∧ y.cls ≠ "java/lang/invoke/MethodHandle" ∧ y.cls ≠ "java/lang/invoke/VarHandle" ∧ (parseMethodDescriptor y.desc).map (fun d => d.parameters.length) = some n) (hn : As.length = n) (hR : rm.frames + 1 ≤ R.frames ∧ 8 + (maxL + 11) + rm.locals ≤ R.locals) (hcat : (st.map fun v => v.category).sum ≤ 8) (hdg : decode cc pc = .ok (.invokevirtual idx, 3)) (hstk : stk = As.reverse ++ .ref b :: st) (hcl : cells + rm.cells ≤ R.cells ∧ slots + rm.slots ≤ R.slots) (hA : ∀ q, A1 q → A q) (hN : ∀ (H : Heap), Wd H → ∀ q : Nat, H.size ≤ q → A q → A1 q) (cut : ∀ H, Wd H → WdC H) (back : ∀ (H H1 : Heap) (u : S), Wd H → WdC' u H1 → H.size ≤ H1.size → (∀ q : Nat, q < H.size → ¬ A1 q → H1[q]? = H[q]?) → Wd' u H1) (kk : ∀ (u : S), post u → pgJ p l e R s m args below meth c nL A (Wd' u) (cells + rm.cells) (slots + rm.slots) (Q) (pc + 3) (L) (st)) : pgJ p l e R s m args below meth c nL A (Wd) (cells) (slots) (Q) (pc) (L) (stk) := by
  subst hstk
  intro H locs ls hS hW hl
  exact va_callv (va_runV (As := As) (rest := st) ⟨B.1, B.2.1, B.2.2.1, B.2.2.2.1, B.2.2.2.2.1⟩ hM (cwV n B.2.2.2.2.1 (pgGV q1 q2 q3 q4 q5) rfl rfl rfl hd hR) ⟨pgBlind, va_recv B.2.2.2.2.2.2.1 (pg_one (hat H hW)) hc (q0 := 0) rfl, (fun U hU hWm => ⟨rfl, pg_narrowAt B.2.2.2.2.2.2 hS hU hWm hA (hN H hW), by rw [hU]; exact cut H hW⟩)⟩ rfl hn hl.1 rfl (lv_room hcat) hdg hcl) hS (fun q _ h => hA q h) hA (fun u t H1 locs1 ht hvm hp hB hz hk hS1 => kk u hp H1 locs1 ls hS1 (back H H1 u hW (by rw [← ht]; exact hB) hz hk) hl)
theorem j_cSi (B : pgB p m c s args meth own cc nL D tys A) {S : Type} {y : MethodName} {bytes : ByteArray} {maxL : Nat} {ret : Option FieldType} {rm : Room} {idx : Nat} (n : Nat) (As : List Value) {WdC : Heap → Prop} {A1 : Nat → Prop} {post : Int32 → S → Prop} {WdC' : S → Heap → Prop} (Wd' : S → Heap → Prop) (hM : Met l y (.code y bytes maxL ret :: pgWd) rm (pgPc D tys A1 WdC (As)) (va_Qi post (fun u t => WdC' u t.heap) A1) rm.cells rm.slots A1) (q1 : Cond.methodLink own idx y ∈ pgWd) (q2 : Cond.static y ∈ pgWd) (q4 : Cond.initialized y.cls ∈ pgWd) (q5 : Cond.code y bytes maxL ret ∈ pgWd) (hd : y.cls ≠ "java/lang/invoke/MethodHandle" ∧ y.cls ≠ "java/lang/invoke/VarHandle" ∧ (parseMethodDescriptor y.desc).map (fun d => d.parameters.length) = some n) (hn : As.length = n) (hR : rm.frames + 1 ≤ R.frames ∧ 8 + (maxL + 11) + rm.locals ≤ R.locals) (hcat : (st.map fun v => v.category).sum ≤ 8) (hdg : decode cc pc = .ok (.invokestatic idx, 3)) (hstk : stk = As.reverse ++ st) (hcl : cells + rm.cells ≤ R.cells ∧ slots + rm.slots ≤ R.slots) (hA : ∀ q, A1 q → A q) (hN : ∀ (H : Heap), Wd H → ∀ q : Nat, H.size ≤ q → A q → A1 q) (cut : ∀ H, Wd H → WdC H) (back : ∀ (H H1 : Heap) (u : S), Wd H → WdC' u H1 → H.size ≤ H1.size → (∀ q : Nat, q < H.size → ¬ A1 q → H1[q]? = H[q]?) → Wd' u H1) (kk : ∀ (r : Int32) (u : S), post r u → pgJ p l e R s m args below meth c nL A (Wd' u) (cells + rm.cells) (slots + rm.slots) (Q) (pc + 3) (L) (.int r :: st)) : pgJ p l e R s m args below meth c nL A (Wd) (cells) (slots) (Q) (pc) (L) (stk) := by
  subst hstk
  intro H locs ls hS hW hl
  exact va_calli (va_runS (As := As) (rest := st) ⟨B.1, B.2.1, B.2.2.1, B.2.2.2.1, B.2.2.2.2.1⟩ hM (va_cwS n B.2.2.2.2.1 (pgGS q1 q2 q4 q5) rfl rfl rfl hd hR) ⟨pgBlind, (fun U hU hWm => ⟨rfl, pg_narrowAt B.2.2.2.2.2.2 hS hU hWm hA (hN H hW), by rw [hU]; exact cut H hW⟩)⟩ rfl hn hl.1 rfl (lv_room hcat) hdg hcl) hS (fun q _ h => hA q h) hA (fun r u t H1 locs1 ht hvm hp hB hz hk hS1 => kk r u hp H1 locs1 ls hS1 (back H H1 u hW (by rw [← ht]; exact hB) hz hk) hl)
theorem j_cWi (B : pgB p m c s args meth own cc nL D tys A) {S : Type} {y : MethodName} {bytes : ByteArray} {maxL : Nat} {ret : Option FieldType} {rm : Room} {idx : Nat} (n : Nat) (As : List Value) {WdC : Heap → Prop} {A1 : Nat → Prop} {hh : List (Nat × Nat × Nat × Nat)} {post : Int32 → S → Prop} {WdC' : S → Heap → Prop} (Wd' : S → Heap → Prop) (hM : Met l y (.codeWith y bytes maxL ret hh :: pgWd) rm (pgPc D tys A1 WdC (As)) (va_Qi post (fun u t => WdC' u t.heap) A1) rm.cells rm.slots A1) (q1 : Cond.methodLink own idx y ∈ pgWd) (q2 : Cond.static y ∈ pgWd) (q4 : Cond.initialized y.cls ∈ pgWd) (q5 : Cond.codeWith y bytes maxL ret hh ∈ pgWd) (hd : y.cls ≠ "java/lang/invoke/MethodHandle" ∧ y.cls ≠ "java/lang/invoke/VarHandle" ∧ (parseMethodDescriptor y.desc).map (fun d => d.parameters.length) = some n) (hn : As.length = n) (hR : rm.frames + 1 ≤ R.frames ∧ 8 + (maxL + 11) + rm.locals ≤ R.locals) (hcat : (st.map fun v => v.category).sum ≤ 8) (hdg : decode cc pc = .ok (.invokestatic idx, 3)) (hstk : stk = As.reverse ++ st) (hcl : cells + rm.cells ≤ R.cells ∧ slots + rm.slots ≤ R.slots) (hA : ∀ q, A1 q → A q) (hN : ∀ (H : Heap), Wd H → ∀ q : Nat, H.size ≤ q → A q → A1 q) (cut : ∀ H, Wd H → WdC H) (back : ∀ (H H1 : Heap) (u : S), Wd H → WdC' u H1 → H.size ≤ H1.size → (∀ q : Nat, q < H.size → ¬ A1 q → H1[q]? = H[q]?) → Wd' u H1) (kk : ∀ (r : Int32) (u : S), post r u → pgJ p l e R s m args below meth c nL A (Wd' u) (cells + rm.cells) (slots + rm.slots) (Q) (pc + 3) (L) (.int r :: st)) : pgJ p l e R s m args below meth c nL A (Wd) (cells) (slots) (Q) (pc) (L) (stk) := by
  subst hstk
  intro H locs ls hS hW hl
  exact va_calli (vx_runSW (hh := hh) (As := As) (rest := st) ⟨B.1, B.2.1, B.2.2.1, B.2.2.2.1, B.2.2.2.2.1⟩ hM (vx_cwSW n B.2.2.2.2.1 (pgGS q1 q2 q4 q5) rfl rfl rfl hd hR) ⟨pgBlind, (fun U hU hWm => ⟨rfl, pg_narrowAt B.2.2.2.2.2.2 hS hU hWm hA (hN H hW), by rw [hU]; exact cut H hW⟩)⟩ rfl hn hl.1 rfl (lv_room hcat) hdg hcl) hS (fun q _ h => hA q h) hA (fun r u t H1 locs1 ht hvm hp hB hz hk hS1 => kk r u hp H1 locs1 ls hS1 (back H H1 u hW (by rw [← ht]; exact hB) hz hk) hl)
theorem j_cIv (B : pgB p m c s args meth own cc nL D tys A) {S : Type} {y : MethodName} {bytes : ByteArray} {maxL : Nat} {rm : Room} {idx : Nat} (n : Nat) {b : Nat} (As : List Value) {WdC : Heap → Prop} {A1 : Nat → Prop} {post : S → Prop} {WdC' : S → Heap → Prop} (Wd' : S → Heap → Prop) (hM : Met l y (.code y bytes maxL none :: pgWd) rm (pgPc D tys A1 WdC (.ref b :: As)) (va_Qv post (fun u t => WdC' u t.heap) A1) rm.cells rm.slots A1) (q1 : Cond.methodLink own idx y ∈ pgWd) (q2 : Cond.instanceMethod y ∈ pgWd) (q4 : Cond.initialized y.cls ∈ pgWd) (q5 : Cond.code y bytes maxL none ∈ pgWd) (hy1 : y.name = "<init>") (hd : y.cls ≠ "java/lang/invoke/MethodHandle" ∧ y.cls ≠ "java/lang/invoke/VarHandle" ∧ (parseMethodDescriptor y.desc).map (fun d => d.parameters.length) = some n) (hn : As.length = n) (hR : rm.frames + 1 ≤ R.frames ∧ 8 + (maxL + 11) + rm.locals ≤ R.locals) (hcat : (st.map fun v => v.category).sum ≤ 8) (hdg : decode cc pc = .ok (.invokespecial idx, 3)) (hstk : stk = As.reverse ++ .ref b :: st) (hcl : cells + rm.cells ≤ R.cells ∧ slots + rm.slots ≤ R.slots) (hA : ∀ q, A1 q → A q) (hN : ∀ (H : Heap), Wd H → ∀ q : Nat, H.size ≤ q → A q → A1 q) (cut : ∀ H, Wd H → WdC H) (back : ∀ (H H1 : Heap) (u : S), Wd H → WdC' u H1 → H.size ≤ H1.size → (∀ q : Nat, q < H.size → ¬ A1 q → H1[q]? = H[q]?) → Wd' u H1) (kk : ∀ (u : S), post u → pgJ p l e R s m args below meth c nL A (Wd' u) (cells + rm.cells) (slots + rm.slots) (Q) (pc + 3) (L) (st)) : pgJ p l e R s m args below meth c nL A (Wd) (cells) (slots) (Q) (pc) (L) (stk) := by
  subst hstk
  intro H locs ls hS hW hl
  exact va_callv (va_runI (As := As) (rest := st) ⟨B.1, B.2.1, B.2.2.1, B.2.2.2.1, B.2.2.2.2.1⟩ hM (cwI n B.2.2.2.2.1 (pgGI q5) rfl rfl rfl (B.2.2.2.2.1 _ q4) (B.2.2.2.2.1 _ q1) (B.2.2.2.2.1 _ q2) hy1 hd hR) ⟨pgBlind, (fun U hU hWm => ⟨rfl, pg_narrowAt B.2.2.2.2.2.2 hS hU hWm hA (hN H hW), by rw [hU]; exact cut H hW⟩)⟩ rfl hn hl.1 rfl (lv_room hcat) hdg hcl) hS (fun q _ h => hA q h) hA (fun u t H1 locs1 ht hvm hp hB hz hk hS1 => kk u hp H1 locs1 ls hS1 (back H H1 u hW (by rw [← ht]; exact hB) hz hk) hl)
theorem pgx_callr {H : Heap} {locs : List Loc} {mc ms : Nat} {free : Addr → Prop} {A0 A1 : Nat → Prop} {H0 : Heap} {a : Array Value} {ls : Array Slot} {st0 rest : List Value} {S SX : Type} {post : S → Prop} {px : SX → Prop} {B : S → Nat → State → Prop} {BX : String → SX → State → Prop} {AX : Nat → Prop} (hr : vx_Run p l e R s m args below meth c H locs cells slots mc ms (F0 m pc ls st0) rest (va_Qr post B A1 a) (vx_X px BX AX) free) (hS : va_S A0 H0 H locs) (hA : ∀ q, q < H.size → A1 q → A0 q) (hf : ∀ q, free q → A0 q) (hAX : ∀ q, q < H.size → AX q → A0 q)
    (kx : ∀ (E : String) (ce : Cell) (q9 : Addr) (u : SX) (t : State) (H1 : Heap) (locs1 : List Loc), t.heap = H1 → s.vm.Alike t.vm → px u → BX E u t → H.size ≤ H1.size → (∀ q : Nat, q < H.size → ¬ AX q → H1[q]? = H[q]?) → va_S A0 H0 H1 locs1 → H1[q9]? = some ce → ce.vm = .none → s.vm.findClass E = some ce.cls → vx_W p l e R s m args below meth c H1 locs1 (cells + mc) (slots + ms) Q (F0 m pc ls rest) q9)
    (kk : ∀ (u : S) (ra : Nat) (t : State) (H1 : Heap) (locs1 : List Loc), t.heap = H1 → s.vm.Alike t.vm → post u → B u ra t → H.size ≤ H1.size → (∀ q : Nat, q < H.size → ¬ A1 q → H1[q]? = H[q]?) → va_S A0 H0 H1 locs1 → W p l e R s m args below meth c H1 locs1 (cells + mc) (slots + ms) Q (F0 m (pc + 3) ls (.ref ra :: rest))) : W p l e R s m args below meth c H locs cells slots Q (F0 m pc ls st0) := by
  intro T hT X
  rcases hr T hT X with ⟨v, st₀, t, T', L, h0, X', hL, e1, e2, ⟨⟨u, ra, hv, hp, hb⟩, hF⟩, st⟩ | ⟨q, st₀, t, T', L, E, ce, h0, X', hL, e1, e2, ⟨u, hp, hb, hF⟩, hce, hcv, hcl, st⟩
  · cases hv
    obtain ⟨k1, k2, k3⟩ := vx_keep h0 e1 hS hA hf hL hF
    obtain ⟨t2, a1, b1⟩ := kk u ra t T'.heap (locs ++ L) e1.symm (by rw [← e2]; exact X'.warmed.alike) hp hb k1 k2 k3 T' rfl X'
    exact ⟨t2, st t2 a1, b1⟩
  · obtain ⟨k1, k2, k3⟩ := vx_keep h0 e1 hS hAX hf hL hF
    obtain ⟨t2, a1, b1⟩ := kx E ce q u t T'.heap (locs ++ L) e1.symm (by rw [← e2]; exact X'.warmed.alike) hp hb k1 k2 k3 (by rw [e1]; exact hce) hcv hcl T' rfl X'
    exact ⟨t2, st.trans a1, b1⟩
theorem j_xVr (B : pgB p m c s args meth own cc nL D tys A) {y : MethodName} {bytes : ByteArray} {maxL : Nat} {ret : Option FieldType} {rm : Room} {idx : Nat} (n : Nat) {b : Nat} (As : List Value) {WdX Wd0 : Heap → Prop} {pxC px : Nat → Prop} {Qc : Array Value → State → Outcome → State → Prop} {mc ms : Nat} {post : Nat → Prop} {WdC' : Heap → Prop} (ht : ∀ x ∈ c.exceptionTable.toList, False) (hM : vx_Met l y (.code y bytes maxL ret :: pgWd) rm (pgPc D tys A Wd (.ref b :: As)) (va_Qr (fun _ : Unit => True) (fun _ a t => post a ∧ WdC' t.heap) A) (pgX A pxC WdX) rm.cells rm.slots A) {C : String} {T : u_T} {N ci : Nat} {fs : List Value} (hc : vwCl[ci]? = some (C, T, N)) (hat : ∀ H, Wd H → va_at D vwCl (b, .inr (ci, fs)) H) (q1 : Cond.methodLink own idx y ∈ pgWd) (q2 : Cond.instanceMethod y ∈ pgWd) (q3 : Cond.selects C y y ∈ pgWd) (q4 : Cond.initialized C ∈ pgWd) (q5 : Cond.code y bytes maxL ret ∈ pgWd) (hd : y.cls = C ∧ y.cls ≠ "java/lang/invoke/MethodHandle" ∧ y.cls ≠ "java/lang/invoke/VarHandle" ∧ (parseMethodDescriptor y.desc).map (fun d => d.parameters.length) = some n) (hn : As.length = n) (hR : rm.frames + 1 ≤ R.frames ∧ 8 + (maxL + 11) + rm.locals ≤ R.locals) (hcat : (st.map fun v => v.category).sum ≤ 8) (hdg : decode cc pc = .ok (.invokevirtual idx, 3)) (hstk : stk = As.reverse ++ .ref b :: st) (hcl : cells + rm.cells ≤ R.cells ∧ slots + rm.slots ≤ R.slots) (hc9 : cells + rm.cells ≤ mc) (hs9 : slots + rm.slots ≤ ms) (hpx : ∀ k, pxC k → px k) (hw0 : ∀ H, WdX H → Wd0 H) (kk : ∀ (r : Nat), post r → pgJ p l e R s m args below meth c nL A (WdC') (cells + rm.cells) (slots + rm.slots) (vx_MQ below Qc (pgX A px Wd0) args s mc ms A) (pc + 3) (L) (.ref r :: st)) : pgJ p l e R s m args below meth c nL A (Wd) (cells) (slots) (vx_MQ below Qc (pgX A px Wd0) args s mc ms A) (pc) (L) (stk) := by
  subst hstk
  intro H locs ls hS hW hl
  exact pgx_callr (vx_runV (As := As) (rest := st) ⟨B.1, B.2.1, B.2.2.1, B.2.2.2.1, B.2.2.2.2.1⟩ hM (cwV n B.2.2.2.2.1 (pgGV q1 q2 q3 q4 q5) rfl rfl rfl hd hR) ⟨pgBlind, va_recv B.2.2.2.2.2.2.1 (pg_one (hat H hW)) hc (q0 := 0) rfl, (fun U hU hWm => ⟨rfl, B.2.2.2.2.2.2.at hS hU hWm, by rw [hU]; exact hW⟩)⟩ rfl hn hl.1 rfl (lv_room hcat) hdg hcl) hS (fun q _ h => h) (fun q h => h) (fun q _ h => h) (fun E ce q9 k t H1 locs1 ht1 hvm hp hB hz hk hS1 hce hcv hcl9 => vx_out (fun x hx => (ht x hx).elim) B.2.2.2.2.2.1 hce hcv hcl9 (fun t9 ht9 hvm9 => ⟨k, hpx k hp, ⟨hB.1, by rw [ht9, ← ht1]; exact hw0 _ hB.2⟩, hS1.F ht9⟩) hS1.2.2 hc9 hs9) (fun _ r t H1 locs1 ht hvm _ hB hz hk hS1 => kk r hB.1 H1 locs1 ls hS1 (by rw [← ht]; exact hB.2) hl)
theorem j_xSv (B : pgB p m c s args meth own cc nL D tys A) {S : Type} {y : MethodName} {bytes : ByteArray} {maxL : Nat} {ret : Option FieldType} {rm : Room} {idx : Nat} (n : Nat) (As : List Value) {WdX Wd0 : Heap → Prop} {pxC px : Nat → Prop} {Qc : Array Value → State → Outcome → State → Prop} {mc ms : Nat} {post : S → Prop} {WdC' : S → Heap → Prop} (ht : ∀ x ∈ c.exceptionTable.toList, False) (hM : vx_Met l y (.code y bytes maxL ret :: pgWd) rm (pgPc D tys A Wd (As)) (va_Qv post (fun u t => WdC' u t.heap) A) (pgX A pxC WdX) rm.cells rm.slots A) (q1 : Cond.methodLink own idx y ∈ pgWd) (q2 : Cond.static y ∈ pgWd) (q4 : Cond.initialized y.cls ∈ pgWd) (q5 : Cond.code y bytes maxL ret ∈ pgWd) (hd : y.cls ≠ "java/lang/invoke/MethodHandle" ∧ y.cls ≠ "java/lang/invoke/VarHandle" ∧ (parseMethodDescriptor y.desc).map (fun d => d.parameters.length) = some n) (hn : As.length = n) (hR : rm.frames + 1 ≤ R.frames ∧ 8 + (maxL + 11) + rm.locals ≤ R.locals) (hcat : (st.map fun v => v.category).sum ≤ 8) (hdg : decode cc pc = .ok (.invokestatic idx, 3)) (hstk : stk = As.reverse ++ st) (hcl : cells + rm.cells ≤ R.cells ∧ slots + rm.slots ≤ R.slots) (hc9 : cells + rm.cells ≤ mc) (hs9 : slots + rm.slots ≤ ms) (hpx : ∀ k, pxC k → px k) (hw0 : ∀ H, WdX H → Wd0 H) (kk : ∀ (u : S), post u → pgJ p l e R s m args below meth c nL A (WdC' u) (cells + rm.cells) (slots + rm.slots) (vx_MQ below Qc (pgX A px Wd0) args s mc ms A) (pc + 3) (L) (st)) : pgJ p l e R s m args below meth c nL A (Wd) (cells) (slots) (vx_MQ below Qc (pgX A px Wd0) args s mc ms A) (pc) (L) (stk) := by
  subst hstk
  intro H locs ls hS hW hl
  exact vx_callv (vx_runS (As := As) (rest := st) ⟨B.1, B.2.1, B.2.2.1, B.2.2.2.1, B.2.2.2.2.1⟩ hM (va_cwS n B.2.2.2.2.1 (pgGS q1 q2 q4 q5) rfl rfl rfl hd hR) ⟨pgBlind, (fun U hU hWm => ⟨rfl, B.2.2.2.2.2.2.at hS hU hWm, by rw [hU]; exact hW⟩)⟩ rfl hn hl.1 rfl (lv_room hcat) hdg hcl) hS (fun q _ h => h) (fun q h => h) (fun q _ h => h) (fun E ce q9 k t H1 locs1 ht1 hvm hp hB hz hk hS1 hce hcv hcl9 => vx_out (fun x hx => (ht x hx).elim) B.2.2.2.2.2.1 hce hcv hcl9 (fun t9 ht9 hvm9 => ⟨k, hpx k hp, ⟨hB.1, by rw [ht9, ← ht1]; exact hw0 _ hB.2⟩, hS1.F ht9⟩) hS1.2.2 hc9 hs9) (fun u t H1 locs1 ht hvm hp hB hz hk hS1 => kk u hp H1 locs1 ls hS1 (by rw [← ht]; exact hB) hl)
end PGC
end
section
/-- one new cell q, with e in it, behind a heap of that world -/
def pgFresh (D : va_G) (Wd : Heap → Prop) (q : Nat) (x : va_E) : Heap → Prop := fun H1 => ∃ H : Heap, Wd H ∧ H.size = q ∧ H1.size = q + 1 ∧ (∀ z : Nat, z < q → H1[z]? = H[z]?) ∧ va_at D vwCl (q, x) H1
section PGN
variable {p : Program} {l : Launch} {e : Env} {R : Room} {s : State} {m : MethodId} {args : Array Value} {below : List Frame} {meth : Method} {c : Code} {own : String} {cc : ByteArray} {nL : Nat} {D : va_G} {tys : List (ClassId × FieldType)} {A : Nat → Prop} {Wd : Heap → Prop} {cells slots : Nat} {Q : State → Prop} {pc : Nat} {L : List (Nat × Value)} {st stk : List Value}
theorem j_objInit (B : pgB p m c s args meth own cc nL D tys A) {idx : Nat} {a : Nat} (q1 : Cond.methodLink own idx objectInit ∈ pgWd) (q2 : Cond.instanceMethod objectInit ∈ pgWd) (q3 : Cond.code objectInit ⟨#[0xb1]⟩ 1 none ∈ pgWd) (hdg : decode cc pc = .ok (.invokespecial idx, 3)) (hf : 1 ≤ R.frames) (hlo : (st.map fun v => v.category).sum + 12 ≤ R.locals) (kk : pgJ p l e R s m args below meth c nL A (Wd) (cells) (slots) (Q) (pc + 3) (L) (st)) : pgJ p l e R s m args below meth c nL A (Wd) (cells) (slots) (Q) (pc) (L) (.ref a :: st) := by
  intro H locs ls hS hW hl
  refine W.objInit B.1 B.2.1 B.2.2.2.1 (B.2.2.2.2.1 _ q1) (B.2.2.2.2.1 _ q2) (B.2.2.2.2.1 _ q3) rfl (by rw [B.2.2.1]; exact hl.1) rfl hdg hf (by show 2 * 0 + _ + 12 ≤ _; omega) ?_
  exact kk H locs ls hS hW hl
theorem j_new (B : pgB p m c s args meth own cc nL D tys A) {C : String} {T : u_T} {N ci index : Nat} {fs : List Value} (hin : ∀ w ∈ u_ws C T N, w ∈ pgWd) (ty : Nat → FieldType) (hty : ∀ k, k < N → parseFieldDescriptor (T k).2.2.1 = some (ty k)) (q1 : Cond.classLink own index C ∈ pgWd) (q2 : Cond.instantiable C N ∈ pgWd) (q3 : Cond.initialized C ∈ pgWd) (hc : vwCl[ci]? = some (C, T, N)) (hfs : ∀ j, j < N → defaultValue (ty j) = vp_V fs j) (hcells : cells + 1 ≤ R.cells) (hslots : slots + N ≤ R.slots) (hdg : decode cc pc = .ok (.new index, 3)) (kk : ∀ q : Nat, A q → pgJ p l e R s m args below meth c nL A (pgFresh D Wd q (.inr (ci, fs))) (cells + 1) (slots + N) (Q) (pc + 3) (L) (.ref q :: st)) : pgJ p l e R s m args below meth c nL A (Wd) (cells) (slots) (Q) (pc) (L) (st) := by
  intro H locs ls hS hW hl
  have hK := B.2.2.2.2.2.2.1
  have hKn := hK.1 ci _ hc
  refine W.newcK B.1 B.2.1 B.2.2.2.1 (B.2.2.2.2.1 _ q1) (B.2.2.2.2.1 _ q2) (B.2.2.2.2.1 _ q3) rfl hdg hcells hslots hKn.2.1 rfl fun H1 kC hkC e1 z1 o1 => ?_
  refine kk H.size (B.2.2.2.2.2.2.2.2.2.2.2 _ hS.1) H1 locs ls ⟨Nat.le_trans hS.1 (by omega), fun x h1 h2 => (o1 x (Nat.lt_of_lt_of_le h1 hS.1)).trans (hS.2.1 x h1 h2), hS.2.2⟩ ⟨H, hW, rfl, z1, o1, ⟨_, hc, ?_⟩⟩ hl
  exact (u_born ty B.2.2.2.2.1 hin hKn hkC e1 hty).to hfs
theorem j_anew (B : pgB p m c s args meth own cc nL D tys A) {C : String} {index N : Nat} {n : Int32} {cA : ClassId} (q1 : Cond.classLink own index C ∈ pgWd) (hAO : va_AO C s) (t0 : Nat) (ht : tys[t0]? = some (cA, .object C)) (hn : ¬ n < 0) (hN : n.toNatClampNeg = N) (hb4 : N * 4 ≤ 536870912) (hcells : cells + 1 ≤ R.cells) (hslots : slots + N ≤ R.slots) (hdg : decode cc pc = .ok (.anewarray index, 3)) (kk : ∀ q : Nat, A q → pgJ p l e R s m args below meth c nL A (pgFresh D Wd q (.inl (cA, N, .inr (.inr (.inr (.inr (fun _ => none))))))) (cells + 1) (slots + N) (Q) (pc + 3) (L) (.ref q :: st)) : pgJ p l e R s m args below meth c nL A (Wd) (cells) (slots) (Q) (pc) (L) (.int n :: st) := by
  intro H locs ls hS hW hl
  subst hN
  refine W.anew B.1 B.2.1 B.2.2.2.1 (B.2.2.2.2.1 _ q1) (va_AO.use hAO) rfl hdg rfl hn hb4 hcells hslots fun cA2 kA comp f1 f2 f3 f4 => ?_
  obtain ⟨kA3, comp3, g1, g2, g3, g4⟩ := (B.2.2.2.2.2.2.1.2 t0 _ ht).2
  have hcA : cA2 = cA := Option.some.inj (f1.symm.trans g4)
  subst hcA
  generalize hH1 : H.push ({ cls := cA2, slots := Array.replicate n.toNatClampNeg .null, vm := .none } : Cell) = H1
  have z1 : H1.size = H.size + 1 := by rw [← hH1, Array.size_push]
  have e1 : H1[H.size]? = some (arrV cA2 n.toNatClampNeg (fun _ => .null)) := by rw [← hH1, Array.getElem?_push_size, ← arrV_new]
  have o1 : ∀ q : Nat, q < H.size → H1[q]? = H[q]? := fun q hq => by rw [← hH1, Array.getElem?_push, if_neg (Nat.ne_of_lt hq)]
  refine kk H.size (B.2.2.2.2.2.2.2.2.2.2.2 _ hS.1) H1 locs ls ⟨Nat.le_trans hS.1 (by omega), fun x h1 h2 => (o1 x (Nat.lt_of_lt_of_le h1 hS.1)).trans (hS.2.1 x h1 h2), hS.2.2⟩ ⟨H, hW, rfl, z1, o1, ?_⟩ hl
  show H1[H.size]? = some (vp_cell _ _)
  rw [vp_cell_q]
  exact e1
theorem j_newa (B : pgB p m c s args meth own cc nL D tys A) {atype : ArrayType} {N : Nat} {n : Int32} {cA : ClassId} {ty : FieldType} {a0 : vp_A} (hty : newarray.typeOf atype = ty) (q1 : Cond.arrayClass ty ∈ pgWd) (t0 : Nat) (ht : tys[t0]? = some (cA, ty)) (hra : va_RA s cA ty → s.vm.findClass ("[" ++ ty.toString) = some cA) (ha : ∀ cA : ClassId, vp_cell cA a0 = arrV cA N (fun _ => defaultValue ty)) (hn : ¬ n < 0) (hN : n.toNatClampNeg = N) (hb4 : N * componentBytes ty ≤ 536870912) (hcells : cells + 1 ≤ R.cells) (hslots : slots + N ≤ R.slots) (hdg : decode cc pc = .ok (.newarray atype, 2)) (kk : ∀ q : Nat, A q → pgJ p l e R s m args below meth c nL A (pgFresh D Wd q (.inl (cA, a0))) (cells + 1) (slots + N) (Q) (pc + 2) (L) (.ref q :: st)) : pgJ p l e R s m args below meth c nL A (Wd) (cells) (slots) (Q) (pc) (L) (.int n :: st) := by
  intro H locs ls hS hW hl
  subst hN
  subst hty
  refine W.newa B.1 B.2.1 (B.2.2.2.2.1 _ q1) rfl hdg rfl hn hb4 hcells hslots fun cA2 kA comp f1 f2 f3 => ?_
  have hcA : cA2 = cA := Option.some.inj (f1.symm.trans (hra (B.2.2.2.2.2.2.1.2 t0 _ ht).2))
  subst hcA
  generalize hH1 : H.push ({ cls := cA2, slots := Array.replicate n.toNatClampNeg (defaultValue (newarray.typeOf atype)), vm := .none } : Cell) = H1
  have z1 : H1.size = H.size + 1 := by rw [← hH1, Array.size_push]
  have e1 : H1[H.size]? = some (arrV cA2 n.toNatClampNeg (fun _ => defaultValue (newarray.typeOf atype))) := by rw [← hH1, Array.getElem?_push_size, ← arrV_new]
  have o1 : ∀ q : Nat, q < H.size → H1[q]? = H[q]? := fun q hq => by rw [← hH1, Array.getElem?_push, if_neg (Nat.ne_of_lt hq)]
  refine kk H.size (B.2.2.2.2.2.2.2.2.2.2.2 _ hS.1) H1 locs ls ⟨Nat.le_trans hS.1 (by omega), fun x h1 h2 => (o1 x (Nat.lt_of_lt_of_le h1 hS.1)).trans (hS.2.1 x h1 h2), hS.2.2⟩ ⟨H, hW, rfl, z1, o1, ?_⟩ hl
  show H1[H.size]? = some (vp_cell _ _)
  rw [ha]
  exact e1
end PGN
/-- an array's picture matters at its places alone -/
theorem pg_refs {D : va_G} {q n : Nat} {cA : ClassId} {f g : Nat → Option Nat} {H : Heap} (h : va_at D vwCl (q, .inl (cA, n, .inr (.inr (.inr (.inr f))))) H) (e : ∀ j, j < n → f j = g j) : va_at D vwCl (q, .inl (cA, n, .inr (.inr (.inr (.inr g))))) H := by
  have h2 : H[q]? = some (vp_cell cA (n, .inr (.inr (.inr (.inr f))))) := h
  show H[q]? = some (vp_cell cA (n, .inr (.inr (.inr (.inr g)))))
  rw [h2, vp_cell_q, vp_cell_q]
  unfold arrV
  congr 3
  funext j
  show va_rf (f j.val) = va_rf (g j.val)
  rw [e j.val j.isLt]
theorem pg_ints {D : va_G} {q n : Nat} {cA : ClassId} {f g : Nat → Int32} {H : Heap} (h : va_at D vwCl (q, .inl (cA, n, .inl f)) H) (e : ∀ j, j < n → f j = g j) : va_at D vwCl (q, .inl (cA, n, .inl g)) H := by
  have h2 : H[q]? = some (vp_cell cA (n, .inl f)) := h
  show H[q]? = some (vp_cell cA (n, .inl g))
  rw [h2, vp_cell_i, vp_cell_i]
  unfold arrV
  congr 3
  funext j
  show Value.int (f j.val) = Value.int (g j.val)
  rw [e j.val j.isLt]
end
section
/-- a state: table by table, place by place. 0 kind, 1 secrecy, 2 keeper, 3 crate, 4 state, 5 missing, 6 offered, 7 doer, 8 found good, 9 certificate, 10 crate's keeper, 11 seal, 12 remembered, 13 numbers (0 disks, 1 seals, 2 odd, 3 entries, 4 certificates), 14 keeper by the log -/
abbrev pgSt : Type := Nat → Nat → Int32
def pgU (σ : pgSt) (t i : Nat) (v : Int32) : pgSt := fun a j => if a = t ∧ j = i then v else σ a j
abbrev ix (d : Int32) : Nat := d.toNatClampNeg
def pgCv (ad : Nat → Nat) (v : Int32) : Value := if v = -1 then .null else .ref (ad (3 + ix v))
abbrev pgDv (ad : Nat → Nat) (σ : pgSt) (j : Nat) : List Value := [.int (σ 0 j), .int (σ 1 j), .int (σ 2 j), .int (σ 14 j), pgCv ad (σ 3 j), .int (σ 6 j), .int (σ 4 j), .int (σ 7 j), .int (σ 8 j), .int (σ 5 j), .int (σ 9 j)]
abbrev pgKv (σ : pgSt) (c : Nat) : List Value := [.int (nI c), .int (σ 10 c), .int (σ 11 c), .int (σ 12 c)]
abbrev pgXv (ad : Nat → Nat) (σ : pgSt) : List Value := [.ref (ad 1), .ref (ad 2), .int (σ 13 0), .int (σ 13 1), .int (σ 13 2), .int (σ 13 3), .int (σ 13 4)]
abbrev pgBd (n : Nat) (ad : Nat → Nat) : Nat → Option Nat := fun i => if i < n then some (ad (13 + i)) else none
/-- what the class's k-th cell holds: the object, its two arrays, ten crates, the disks -/
def pgO (cD cC : ClassId) (σ : pgSt) (n : Nat) (ad : Nat → Nat) (k : Nat) : va_E :=
  if k = 0 then .inr (2, pgXv ad σ) else if k = 1 then .inl (cD, 60, .inr (.inr (.inr (.inr (pgBd n ad))))) else if k = 2 then .inl (cC, 10, .inr (.inr (.inr (.inr (fun i => some (ad (3 + i))))))) else if k < 13 then .inr (0, pgKv σ (k - 3)) else .inr (1, pgDv ad σ (k - 13))
/-- the class's world -/
def pgR (D : va_G) (cD cC : ClassId) (A : Nat → Prop) (σ : pgSt) (n : Nat) (ad : Nat → Nat) (H : Heap) : Prop :=
  (∀ k, k < 13 + n → va_at D vwCl (ad k, pgO cD cC σ n ad k) H) ∧ (∀ a b, a < 13 + n → b < 13 + n → ad a = ad b → a = b) ∧ (∀ k, k < 13 + n → A (ad k))
section PGR
variable {D : va_G} {cD cC : ClassId} {A : Nat → Prop} {σ σ2 : pgSt} {n : Nat} {ad : Nat → Nat} {H H1 : Heap}
theorem pgR.x (h : pgR D cD cC A σ n ad H) : va_at D vwCl (ad 0, .inr (2, pgXv ad σ)) H := h.1 0 (by omega)
theorem pgR.bd (h : pgR D cD cC A σ n ad H) : va_at D vwCl (ad 1, .inl (cD, 60, .inr (.inr (.inr (.inr (pgBd n ad)))))) H := h.1 1 (by omega)
theorem pgR.ac (h : pgR D cD cC A σ n ad H) : va_at D vwCl (ad 2, .inl (cC, 10, .inr (.inr (.inr (.inr (fun i => some (ad (3 + i)))))))) H := h.1 2 (by omega)
theorem pgO_cr {c : Nat} (hc : c < 10) : pgO cD cC σ n ad (3 + c) = .inr (0, pgKv σ c) := by
  unfold pgO
  rw [if_neg (by omega), if_neg (by omega), if_neg (by omega), if_pos (by omega), show 3 + c - 3 = c by omega]
theorem pgO_dk (j : Nat) : pgO cD cC σ n ad (13 + j) = .inr (1, pgDv ad σ j) := by
  unfold pgO
  rw [if_neg (by omega), if_neg (by omega), if_neg (by omega), if_neg (by omega), show 13 + j - 13 = j by omega]
theorem pgR.cr (h : pgR D cD cC A σ n ad H) {c : Nat} (hc : c < 10) : va_at D vwCl (ad (3 + c), .inr (0, pgKv σ c)) H := by
  rw [← pgO_cr (cD := cD) (cC := cC) (n := n) (ad := ad) hc]
  exact h.1 (3 + c) (by omega)
theorem pgR.dk (h : pgR D cD cC A σ n ad H) {j : Nat} (hj : j < n) : va_at D vwCl (ad (13 + j), .inr (1, pgDv ad σ j)) H := by
  rw [← pgO_dk (cD := cD) (cC := cC) (n := n) (ad := ad) j]
  exact h.1 (13 + j) (by omega)
theorem pgR.inA (h : pgR D cD cC A σ n ad H) : ∀ k, k < 13 + n → A (ad k) := h.2.2
theorem pgR.lt (h : pgR D cD cC A σ n ad H) {k : Nat} (hk : k < 13 + n) : ad k < H.size := (h.1 k hk).lt
theorem pgR.kept (h : pgR D cD cC A σ n ad H) (hq : ∀ k, k < 13 + n → H1[ad k]? = H[ad k]?) : pgR D cD cC A σ n ad H1 := ⟨fun k hk => (h.1 k hk).kept (hq k hk), h.2⟩
theorem pgR.more (h : pgR D cD cC A σ n ad H) (hq : ∀ q : Nat, q < H.size → H1[q]? = H[q]?) : pgR D cD cC A σ n ad H1 := h.kept fun k hk => hq _ (h.lt hk)
theorem pgR.eq (h : pgR D cD cC A σ n ad H) (e : σ = σ2) : pgR D cD cC A σ2 n ad H := e ▸ h
/-- one cell changes -/
theorem pgR.up (h : pgR D cD cC A σ n ad H) {k : Nat} (hk : k < 13 + n) (hc : va_at D vwCl (ad k, pgO cD cC σ2 n ad k) H1) (ho : ∀ q : Nat, q ≠ ad k → H1[q]? = H[q]?) (hs : ∀ a, a < 13 + n → a ≠ k → pgO cD cC σ2 n ad a = pgO cD cC σ n ad a) : pgR D cD cC A σ2 n ad H1 := by
  refine ⟨fun a ha => ?_, h.2⟩
  by_cases e : a = k
  · rw [e]; exact hc
  · rw [hs a ha e]
    exact (h.1 a ha).kept (ho _ (fun z => e (h.2.1 a k ha hk z)))
theorem pgU_ne {t i a j : Nat} {v : Int32} (h : a ≠ t) : pgU σ t i v a j = σ a j := by simp [pgU, h]
theorem pgU_nj {t i a j : Nat} {v : Int32} (h : j ≠ i) : pgU σ t i v a j = σ a j := by simp [pgU, h]
theorem pgU_self {t i : Nat} {v : Int32} : pgU σ t i v t i = v := by simp [pgU]
theorem pgXv_u {t i : Nat} {v : Int32} (h : (13 : Nat) ≠ t) : pgXv ad (pgU σ t i v) = pgXv ad σ := by simp only [pgXv, pgU_ne h]
theorem pgKv_u {t i a : Nat} {v : Int32} (h1 : (10 : Nat) ≠ t) (h2 : (11 : Nat) ≠ t) (h3 : (12 : Nat) ≠ t) : pgKv (pgU σ t i v) a = pgKv σ a := by simp only [pgKv, pgU_ne h1, pgU_ne h2, pgU_ne h3]
theorem pgKv_j {t i a : Nat} {v : Int32} (h : a ≠ i) : pgKv (pgU σ t i v) a = pgKv σ a := by simp only [pgKv, pgU_nj h]
theorem pgDv_u {t i a : Nat} {v : Int32} (g : ∀ u : Nat, u < 10 ∨ u = 14 → u ≠ t) : pgDv ad (pgU σ t i v) a = pgDv ad σ a := by simp only [pgDv, pgU_ne (g 0 (by omega)), pgU_ne (g 1 (by omega)), pgU_ne (g 2 (by omega)), pgU_ne (g 3 (by omega)), pgU_ne (g 4 (by omega)), pgU_ne (g 5 (by omega)), pgU_ne (g 6 (by omega)), pgU_ne (g 7 (by omega)), pgU_ne (g 8 (by omega)), pgU_ne (g 9 (by omega)), pgU_ne (g 14 (by omega))]
theorem pgDv_j {t i a : Nat} {v : Int32} (h : a ≠ i) : pgDv ad (pgU σ t i v) a = pgDv ad σ a := by simp only [pgDv, pgU_nj h]
theorem pgO_num {t : Nat} {v : Int32} (a : Nat) (ha : a ≠ 0) : pgO cD cC (pgU σ 13 t v) n ad a = pgO cD cC σ n ad a := by
  unfold pgO
  rw [if_neg ha, if_neg ha, pgKv_u (by omega) (by omega) (by omega), pgDv_u (by omega)]
/-- a number of the object's own: field 2 + t -/
theorem pgR.putX (h : pgR D cD cC A σ n ad H) {t : Nat} {v : Int32} {w : List Value} (hw : w = pgXv ad (pgU σ 13 t v)) (hc : va_at D vwCl (ad 0, .inr (2, w)) H1) (ho : ∀ q : Nat, q ≠ ad 0 → H1[q]? = H[q]?) : pgR D cD cC A (pgU σ 13 t v) n ad H1 := by
  subst hw
  exact h.up (k := 0) (by omega) hc ho (fun a _ ha => pgO_num a ha)
/-- a field of crate c -/
theorem pgR.putK (h : pgR D cD cC A σ n ad H) {t c : Nat} {v : Int32} {w : List Value} (hc9 : c < 10) (ht : t = 10 ∨ t = 11 ∨ t = 12) (hw : w = pgKv (pgU σ t c v) c) (hc : va_at D vwCl (ad (3 + c), .inr (0, w)) H1) (ho : ∀ q : Nat, q ≠ ad (3 + c) → H1[q]? = H[q]?) : pgR D cD cC A (pgU σ t c v) n ad H1 := by
  subst hw
  refine h.up (k := 3 + c) (by omega) (by rw [pgO_cr hc9]; exact hc) ho (fun a ha hn => ?_)
  unfold pgO
  have e13 : (13 : Nat) ≠ t := by omega
  by_cases h0 : a = 0
  · simp only [if_pos h0, pgXv_u e13]
  · by_cases h1 : a = 1
    · simp only [if_neg h0, if_pos h1]
    · by_cases h2 : a = 2
      · simp only [if_neg h0, if_neg h1, if_pos h2]
      · by_cases h3 : a < 13
        · have hj : a - 3 ≠ c := by omega
          simp only [if_neg h0, if_neg h1, if_neg h2, if_pos h3, pgKv_j hj]
        · have g : ∀ u : Nat, u < 10 ∨ u = 14 → u ≠ t := by omega
          simp only [if_neg h0, if_neg h1, if_neg h2, if_neg h3, pgDv_u g]
/-- a field of disk j -/
theorem pgR.putD (h : pgR D cD cC A σ n ad H) {t j : Nat} {v : Int32} {w : List Value} (hj : j < n) (ht : t < 10 ∨ t = 14) (hw : w = pgDv ad (pgU σ t j v) j) (hc : va_at D vwCl (ad (13 + j), .inr (1, w)) H1) (ho : ∀ q : Nat, q ≠ ad (13 + j) → H1[q]? = H[q]?) : pgR D cD cC A (pgU σ t j v) n ad H1 := by
  subst hw
  refine h.up (k := 13 + j) (by omega) (by rw [pgO_dk]; exact hc) ho (fun a ha hn => ?_)
  unfold pgO
  have e13 : (13 : Nat) ≠ t := by omega
  have e10 : (10 : Nat) ≠ t := by omega
  have e11 : (11 : Nat) ≠ t := by omega
  have e12 : (12 : Nat) ≠ t := by omega
  by_cases h0 : a = 0
  · simp only [if_pos h0, pgXv_u e13]
  · by_cases h1 : a = 1
    · simp only [if_neg h0, if_pos h1]
    · by_cases h2 : a = 2
      · simp only [if_neg h0, if_neg h1, if_pos h2]
      · by_cases h3 : a < 13
        · simp only [if_neg h0, if_neg h1, if_neg h2, if_pos h3, pgKv_u e10 e11 e12]
        · have hj2 : a - 13 ≠ j := by omega
          simp only [if_neg h0, if_neg h1, if_neg h2, if_neg h3, pgDv_j hj2]
end PGR
theorem pg_nm1 : ∀ c, c < 10 → nI c ≠ -1 := by decide
theorem pgCv_ref {ad : Nat → Nat} {v : Int32} {c : Nat} (hc : c < 10) (h : v = nI c) : pgCv ad v = .ref (ad (3 + c)) := by
  subst h
  unfold pgCv
  rw [if_neg (pg_nm1 c hc), show ix (nI c) = c from nI_clamp (by omega)]
theorem pgCv_null {ad : Nat → Nat} {v : Int32} (h : v = -1) : pgCv ad v = .null := by
  subst h
  rfl
/-- what holds of every state that is reached -/
def pgI (n : Nat) (σ : pgSt) : Prop :=
  n ≤ 60 ∧ σ 13 0 = nI n ∧ (∀ j, j < n → σ 3 j = -1 ∨ ∃ c, c < 10 ∧ σ 3 j = nI c) ∧ (∃ K, K ≤ 100 ∧ σ 13 1 = nI K ∧ ∀ c, c < 10 → σ 11 c = -1 ∨ ∃ k, k < K ∧ σ 11 c = nI k) ∧ (∀ j, n ≤ j → σ 4 j = 0 ∧ σ 5 j = 0 ∧ σ 8 j = 0) ∧ (∀ j, j < n → σ 14 j = σ 2 j)
abbrev pgIsD (σ : pgSt) (d : Int32) : Prop := 0 ≤ d ∧ d < σ 13 0
abbrev pgIsK (k : Int32) : Prop := 0 ≤ k ∧ k < 8
abbrev pgIsC (c : Int32) : Prop := 0 ≤ c ∧ c < 10
abbrev pgShut (σ : pgSt) (j : Nat) : Prop := σ 3 j ≠ -1 ∧ σ 11 (ix (σ 3 j)) ≠ -1
abbrev pgLoose (σ : pgSt) (j : Nat) : Prop := σ 5 j = 0 ∧ σ 6 j = -1 ∧ σ 3 j = -1
abbrev pgReach (σ : pgSt) (j : Nat) : Prop := σ 5 j = 0 ∧ σ 6 j = -1 ∧ ¬ pgShut σ j
abbrev pgFin (σ : pgSt) (j : Nat) : Prop := σ 4 j = 3 ∨ (σ 4 j = 1 ∧ σ 8 j ≠ 0)
abbrev pgAw (σ : pgSt) (j : Nat) : Prop := pgFin σ j ∧ σ 5 j = 0 ∧ σ 9 j = -1
theorem pg_ofN {d : Int32} {N : Nat} (hN : N < 2 ^ 31) (h : 0 ≤ d ∧ d < nI N) : ix d < N ∧ d = nI (ix d) := by
  obtain ⟨j, hj, rfl⟩ := nI_of (x := d) (by
    intro h2
    exact Int32.lt_irrefl (Int32.lt_of_lt_of_le h2 h.1))
  have e : ix (nI j) = j := nI_clamp hj
  rw [e]
  exact ⟨(nI_ltI hj hN).mp h.2, rfl⟩
theorem pgIsD.at {n : Nat} {σ : pgSt} {d : Int32} (hI : pgI n σ) (h : pgIsD σ d) : ix d < n ∧ d = nI (ix d) := pg_ofN (by have := hI.1; omega) ⟨h.1, by rw [← hI.2.1]; exact h.2⟩
theorem pgIsC.at {d : Int32} (h : pgIsC d) : ix d < 10 ∧ d = nI (ix d) := pg_ofN (by omega) ⟨h.1, h.2⟩
theorem pg_in0 {d : Int32} {N : Nat} (h0 : ¬ d < 0) (h : d < nI N) (hN : N < 2 ^ 31) : vp_in d N := by
  obtain ⟨h1, h2⟩ := pg_ofN hN ⟨by exact Int32.not_lt.mp h0, h⟩
  rw [h2]
  exact vp_in_nI h1 hN
/-- how many places below k have P -/
def pgN (P : Nat → Bool) : Nat → Nat
  | 0 => 0
  | k + 1 => pgN P k + (if P k = true then 1 else 0)
theorem pgN_le (P : Nat → Bool) : ∀ k, pgN P k ≤ k
  | 0 => Nat.le_refl 0
  | k + 1 => by
    have := pgN_le P k
    unfold pgN
    split <;> omega
theorem pgN_pad {P : Nat → Bool} {n : Nat} (h : ∀ j, n ≤ j → P j = false) : ∀ k, pgN P (n + k) = pgN P n
  | 0 => rfl
  | k + 1 => by
    show pgN P (n + k) + _ = _
    rw [pgN_pad h k, show P (n.add k) = false from h (n + k) (by omega)]
    rfl
theorem pgN_congr {P P2 : Nat → Bool} : ∀ {k : Nat}, (∀ j, j < k → P j = P2 j) → pgN P k = pgN P2 k
  | 0, _ => rfl
  | k + 1, h => by
    unfold pgN
    rw [pgN_congr (k := k) (fun j hj => h j (by omega)), h k (by omega)]
/-- how many disks are in crate c -/
abbrev pgCnt (σ : pgSt) (n : Nat) (c : Int32) : Int32 := nI (pgN (fun j => decide (σ 3 j = c)) n)
/-- disk j goes to a keeper, with an entry -/
abbrev pgHo (σ : pgSt) (j : Nat) (to : Int32) : pgSt := pgU (pgU (pgU σ 2 j to) 14 j to) 13 3 (σ 13 3 + 1)
/-- .. all disks of crate c below k -/
def pgHoN (σ : pgSt) (c to : Int32) (k : Nat) : pgSt := fun t j => if (t = 2 ∨ t = 14) ∧ j < k ∧ σ 3 j = c then to else if t = 13 ∧ j = 3 then σ 13 3 + pgCnt σ k c else σ t j
abbrev pgRes : Type := Nat × Int32 × pgSt
def sp_bring (σ : pgSt) (kind secr keeper : Int32) : pgRes :=
  if ¬ pgIsK keeper then (1, 0, σ) else if ¬ (0 ≤ kind ∧ kind < 3 ∧ 0 ≤ secr ∧ secr < 4) then (2, 0, σ) else if ¬ σ 13 0 < 60 then (3, 0, σ) else
    (0, σ 13 0, fun t j => if t = 13 then (if j = 0 then σ 13 0 + 1 else if j = 3 then σ 13 3 + 1 else σ t j) else if j = ix (σ 13 0) then (if t = 0 then kind else if t = 1 then secr else if t = 2 then keeper else if t = 14 then keeper else if t = 3 then -1 else if t = 6 then -1 else if t = 7 then -1 else if t = 9 then -1 else σ t j) else σ t j)
def sp_offer (σ : pgSt) (d to : Int32) : pgRes :=
  if ¬ (pgIsD σ d ∧ pgIsK to) then (1, 0, σ) else if to = σ 2 (ix d) then (2, 0, σ) else if ¬ pgLoose σ (ix d) then (3, 0, σ) else (0, σ 2 (ix d), pgU σ 6 (ix d) to)
def sp_answer (σ : pgSt) (d t : Int32) : pgRes :=
  if ¬ pgIsD σ d then (1, 0, σ) else if σ 5 (ix d) ≠ 0 ∨ σ 6 (ix d) = -1 then (3, 0, σ) else if t = 0 then (0, σ 2 (ix d), pgU σ 6 (ix d) (-1)) else (0, σ 6 (ix d), pgHo (pgU σ 6 (ix d) (-1)) (ix d) (σ 6 (ix d)))
def sp_pack (σ : pgSt) (d c : Int32) : pgRes :=
  if ¬ (pgIsD σ d ∧ pgIsC c) then (1, 0, σ) else if ¬ (pgLoose σ (ix d) ∧ σ 11 (ix c) = -1 ∧ σ 10 (ix c) = σ 2 (ix d)) then (3, 0, σ) else (0, pgCnt (pgU σ 3 (ix d) c) (ix (σ 13 0)) c, pgU σ 3 (ix d) c)
def sp_unpack (σ : pgSt) (d : Int32) : pgRes :=
  if ¬ pgIsD σ d then (1, 0, σ) else if σ 5 (ix d) ≠ 0 ∨ σ 3 (ix d) = -1 ∨ σ 11 (ix (σ 3 (ix d))) ≠ -1 then (3, 0, σ) else (0, σ 3 (ix d), pgU σ 3 (ix d) (-1))
def sp_seal (σ : pgSt) (c : Int32) : pgRes :=
  if ¬ pgIsC c then (1, 0, σ) else if σ 11 (ix c) ≠ -1 ∨ ¬ σ 13 1 < 100 then (3, 0, σ) else (0, σ 13 1, pgU (pgU (pgU σ 11 (ix c) (σ 13 1)) 12 (ix c) (pgCnt σ (ix (σ 13 0)) c)) 13 1 (σ 13 1 + 1))
def sp_open (σ : pgSt) (c k : Int32) : pgRes :=
  if ¬ pgIsC c then (1, 0, σ) else if ¬ (0 ≤ k ∧ k ≤ 99) then (2, 0, σ) else if σ 11 (ix c) = -1 then (3, 0, σ) else (0, k - σ 12 (ix c), if k - σ 12 (ix c) = 0 then pgU σ 11 (ix c) (-1) else pgU (pgU σ 11 (ix c) (-1)) 13 2 (σ 13 2 + 1))
def sp_carry (σ : pgSt) (c to : Int32) : pgRes :=
  if ¬ (pgIsC c ∧ pgIsK to) then (1, 0, σ) else if to = σ 10 (ix c) then (2, 0, σ) else if σ 11 (ix c) = -1 ∧ 0 < pgCnt σ (ix (σ 13 0)) c then (3, 0, σ) else (0, σ 10 (ix c), pgHoN (pgU σ 10 (ix c) to) c to (ix (σ 13 0)))
def sp_wipe (σ : pgSt) (d way w : Int32) : pgRes :=
  if ¬ (pgIsD σ d ∧ pgIsK w) then (1, 0, σ) else if ¬ (0 ≤ way ∧ way < 3) ∨ w = σ 2 (ix d) then (2, 0, σ) else if ¬ pgReach σ (ix d) ∨ σ 4 (ix d) = 1 ∨ σ 4 (ix d) = 3 then (3, 0, σ) else if way = σ 0 (ix d) ∧ σ 1 (ix d) < 3 then (0, 1, pgU (pgU (pgU σ 4 (ix d) 1) 7 (ix d) (σ 2 (ix d))) 8 (ix d) 0) else (0, 2, pgU (pgU (pgU σ 4 (ix d) 2) 7 (ix d) (σ 2 (ix d))) 8 (ix d) 0)
def sp_smash (σ : pgSt) (d w : Int32) : pgRes :=
  if ¬ (pgIsD σ d ∧ pgIsK w) then (1, 0, σ) else if w = σ 2 (ix d) then (2, 0, σ) else if ¬ pgReach σ (ix d) ∨ σ 4 (ix d) = 3 then (3, 0, σ) else (0, σ 4 (ix d), pgU σ 4 (ix d) 3)
def sp_check (σ : pgSt) (d w g : Int32) : pgRes :=
  if ¬ (pgIsD σ d ∧ pgIsK w) then (1, 0, σ) else if σ 4 (ix d) = 1 ∧ w = σ 7 (ix d) then (2, 0, σ) else if ¬ pgReach σ (ix d) ∨ σ 4 (ix d) ≠ 1 then (3, 0, σ) else if g = 0 then (0, 2, pgU (pgU σ 8 (ix d) g) 4 (ix d) 2) else (0, 1, pgU (pgU σ 8 (ix d) g) 4 (ix d) 1)
def sp_lose (σ : pgSt) (d : Int32) : pgRes :=
  if ¬ pgIsD σ d then (1, 0, σ) else if σ 5 (ix d) ≠ 0 then (3, 0, σ) else (0, σ 2 (ix d), pgU (pgU σ 5 (ix d) 1) 6 (ix d) (-1))
def sp_find (σ : pgSt) (d : Int32) : pgRes :=
  if ¬ pgIsD σ d then (1, 0, σ) else if σ 5 (ix d) = 0 then (3, 0, σ) else (0, σ 3 (ix d), pgU σ 5 (ix d) 0)
/-- the disks of keeper k below i that wait for a certificate get number v -/
def pgCe (σ : pgSt) (k v : Int32) (i : Nat) : pgSt := fun t j => if t = 9 ∧ j < i ∧ σ 2 j = k ∧ pgAw σ j then v else σ t j
abbrev pgCeN (σ : pgSt) (k : Int32) (i : Nat) : Nat := pgN (fun j => decide (σ 2 j = k ∧ pgAw σ j)) i
def sp_certify (σ : pgSt) (k : Int32) : pgRes :=
  if ¬ pgIsK k then (1, 0, σ) else if pgCeN σ k (ix (σ 13 0)) = 0 then (4, 0, σ) else (0, nI (pgCeN σ k (ix (σ 13 0))), pgU (pgCe σ k (σ 13 4) (ix (σ 13 0))) 13 4 (σ 13 4 + 1))
def sp_askD (σ : pgSt) (d : Int32) (t : Nat) : pgRes := if ¬ pgIsD σ d then (1, 0, σ) else (0, σ t (ix d), σ)
def sp_askC (σ : pgSt) (c : Int32) (t : Nat) : pgRes := if ¬ pgIsC c then (1, 0, σ) else (0, σ t (ix c), σ)
def sp_isDone (σ : pgSt) (d : Int32) : pgRes := if ¬ pgIsD σ d then (1, 0, σ) else (0, if pgFin σ (ix d) then 1 else 0, σ)
def sp_has (σ : pgSt) (k : Int32) : pgRes := if ¬ pgIsK k then (1, 0, σ) else (0, nI (pgN (fun j => decide (σ 2 j = k)) (ix (σ 13 0))), σ)
abbrev pgMis (σ : pgSt) : Int32 := nI (pgN (fun j => decide (σ 5 j ≠ 0)) (ix (σ 13 0)))
/-- the arrays' classes -/
abbrev pgTys (cD cC cI cZ cL : ClassId) : List (ClassId × FieldType) := [(cD, .object RX1), (cC, .object RX0), (cI, .int), (cZ, .boolean), (cL, .long)]
end
section
abbrev pgCr (n : Nat) (σ : pgSt) : Prop := ∀ j, j < n → σ 3 j = -1 ∨ ∃ c, c < 10 ∧ σ 3 j = nI c
theorem pgCx {c : Nat} {v : Int32} (hc : c < 10) (h : v = nI c) : v ≠ -1 ∧ ix v = c := by
  subst h
  exact ⟨pg_nm1 c hc, nI_clamp (by omega)⟩
section PGS
variable {ad : Nat → Nat} {σ : pgSt} {j c : Nat} {v : Int32}
theorem pgDs2 : (pgDv ad σ j).set 2 (.int v) = pgDv ad (pgU σ 2 j v) j := by simp [pgU]
theorem pgDs3 : (pgDv ad σ j).set 3 (.int v) = pgDv ad (pgU σ 14 j v) j := by simp [pgU]
theorem pgDs5 : (pgDv ad σ j).set 5 (.int v) = pgDv ad (pgU σ 6 j v) j := by simp [pgU]
theorem pgDs6 : (pgDv ad σ j).set 6 (.int v) = pgDv ad (pgU σ 4 j v) j := by simp [pgU]
theorem pgDs7 : (pgDv ad σ j).set 7 (.int v) = pgDv ad (pgU σ 7 j v) j := by simp [pgU]
theorem pgDs8 : (pgDv ad σ j).set 8 (.int v) = pgDv ad (pgU σ 8 j v) j := by simp [pgU]
theorem pgDs9 : (pgDv ad σ j).set 9 (.int v) = pgDv ad (pgU σ 5 j v) j := by simp [pgU]
theorem pgDs10 : (pgDv ad σ j).set 10 (.int v) = pgDv ad (pgU σ 9 j v) j := by simp [pgU]
theorem pgDs4n : (pgDv ad σ j).set 4 .null = pgDv ad (pgU σ 3 j (-1)) j := by simp [pgU, pgCv]
theorem pgDs4r (hc : c < 10) (h : v = nI c) : (pgDv ad σ j).set 4 (.ref (ad (3 + c))) = pgDv ad (pgU σ 3 j v) j := by
  have e := pgCv_ref (ad := ad) hc h
  simp [pgU, e]
theorem pgKs1 : (pgKv σ c).set 1 (.int v) = pgKv (pgU σ 10 c v) c := by simp [pgU]
theorem pgKs2 : (pgKv σ c).set 2 (.int v) = pgKv (pgU σ 11 c v) c := by simp [pgU]
theorem pgKs3 : (pgKv σ c).set 3 (.int v) = pgKv (pgU σ 12 c v) c := by simp [pgU]
theorem pgXs2 : (pgXv ad σ).set 2 (.int v) = pgXv ad (pgU σ 13 0 v) := by simp [pgU]
theorem pgXs3 : (pgXv ad σ).set 3 (.int v) = pgXv ad (pgU σ 13 1 v) := by simp [pgU]
theorem pgXs4 : (pgXv ad σ).set 4 (.int v) = pgXv ad (pgU σ 13 2 v) := by simp [pgU]
theorem pgXs5 : (pgXv ad σ).set 5 (.int v) = pgXv ad (pgU σ 13 3 v) := by simp [pgU]
theorem pgXs6 : (pgXv ad σ).set 6 (.int v) = pgXv ad (pgU σ 13 4 v) := by simp [pgU]
end PGS
theorem hdX0_init : yX0_init.cls ≠ "java/lang/invoke/MethodHandle" ∧ yX0_init.cls ≠ "java/lang/invoke/VarHandle" ∧ (parseMethodDescriptor yX0_init.desc).map (fun d => d.parameters.length) = some 1 := by decide +kernel
theorem hdX0_isSealed : yX0_isSealed.cls = RX0 ∧ yX0_isSealed.cls ≠ "java/lang/invoke/MethodHandle" ∧ yX0_isSealed.cls ≠ "java/lang/invoke/VarHandle" ∧ (parseMethodDescriptor yX0_isSealed.desc).map (fun d => d.parameters.length) = some 0 := by decide +kernel
theorem hdX1_init : yX1_init.cls ≠ "java/lang/invoke/MethodHandle" ∧ yX1_init.cls ≠ "java/lang/invoke/VarHandle" ∧ (parseMethodDescriptor yX1_init.desc).map (fun d => d.parameters.length) = some 2 := by decide +kernel
theorem hdX1_crateNumber : yX1_crateNumber.cls = RX1 ∧ yX1_crateNumber.cls ≠ "java/lang/invoke/MethodHandle" ∧ yX1_crateNumber.cls ≠ "java/lang/invoke/VarHandle" ∧ (parseMethodDescriptor yX1_crateNumber.desc).map (fun d => d.parameters.length) = some 0 := by decide +kernel
theorem hdX1_isSealedIn : yX1_isSealedIn.cls = RX1 ∧ yX1_isSealedIn.cls ≠ "java/lang/invoke/MethodHandle" ∧ yX1_isSealedIn.cls ≠ "java/lang/invoke/VarHandle" ∧ (parseMethodDescriptor yX1_isSealedIn.desc).map (fun d => d.parameters.length) = some 0 := by decide +kernel
theorem hdX1_isFinished : yX1_isFinished.cls = RX1 ∧ yX1_isFinished.cls ≠ "java/lang/invoke/MethodHandle" ∧ yX1_isFinished.cls ≠ "java/lang/invoke/VarHandle" ∧ (parseMethodDescriptor yX1_isFinished.desc).map (fun d => d.parameters.length) = some 0 := by decide +kernel
theorem hdX1_awaitsCertificate : yX1_awaitsCertificate.cls = RX1 ∧ yX1_awaitsCertificate.cls ≠ "java/lang/invoke/MethodHandle" ∧ yX1_awaitsCertificate.cls ≠ "java/lang/invoke/VarHandle" ∧ (parseMethodDescriptor yX1_awaitsCertificate.desc).map (fun d => d.parameters.length) = some 0 := by decide +kernel
theorem hdX2_init : yX2_init.cls ≠ "java/lang/invoke/MethodHandle" ∧ yX2_init.cls ≠ "java/lang/invoke/VarHandle" ∧ (parseMethodDescriptor yX2_init.desc).map (fun d => d.parameters.length) = some 0 := by decide +kernel
theorem hdX2_bring : yX2_bring.cls = RX2 ∧ yX2_bring.cls ≠ "java/lang/invoke/MethodHandle" ∧ yX2_bring.cls ≠ "java/lang/invoke/VarHandle" ∧ (parseMethodDescriptor yX2_bring.desc).map (fun d => d.parameters.length) = some 3 := by decide +kernel
theorem hdX2_offer : yX2_offer.cls = RX2 ∧ yX2_offer.cls ≠ "java/lang/invoke/MethodHandle" ∧ yX2_offer.cls ≠ "java/lang/invoke/VarHandle" ∧ (parseMethodDescriptor yX2_offer.desc).map (fun d => d.parameters.length) = some 2 := by decide +kernel
theorem hdX2_answer : yX2_answer.cls = RX2 ∧ yX2_answer.cls ≠ "java/lang/invoke/MethodHandle" ∧ yX2_answer.cls ≠ "java/lang/invoke/VarHandle" ∧ (parseMethodDescriptor yX2_answer.desc).map (fun d => d.parameters.length) = some 2 := by decide +kernel
theorem hdX2_pack : yX2_pack.cls = RX2 ∧ yX2_pack.cls ≠ "java/lang/invoke/MethodHandle" ∧ yX2_pack.cls ≠ "java/lang/invoke/VarHandle" ∧ (parseMethodDescriptor yX2_pack.desc).map (fun d => d.parameters.length) = some 2 := by decide +kernel
theorem hdX2_unpack : yX2_unpack.cls = RX2 ∧ yX2_unpack.cls ≠ "java/lang/invoke/MethodHandle" ∧ yX2_unpack.cls ≠ "java/lang/invoke/VarHandle" ∧ (parseMethodDescriptor yX2_unpack.desc).map (fun d => d.parameters.length) = some 1 := by decide +kernel
theorem hdX2_seal : yX2_seal.cls = RX2 ∧ yX2_seal.cls ≠ "java/lang/invoke/MethodHandle" ∧ yX2_seal.cls ≠ "java/lang/invoke/VarHandle" ∧ (parseMethodDescriptor yX2_seal.desc).map (fun d => d.parameters.length) = some 1 := by decide +kernel
theorem hdX2_open : yX2_open.cls = RX2 ∧ yX2_open.cls ≠ "java/lang/invoke/MethodHandle" ∧ yX2_open.cls ≠ "java/lang/invoke/VarHandle" ∧ (parseMethodDescriptor yX2_open.desc).map (fun d => d.parameters.length) = some 2 := by decide +kernel
theorem hdX2_carry : yX2_carry.cls = RX2 ∧ yX2_carry.cls ≠ "java/lang/invoke/MethodHandle" ∧ yX2_carry.cls ≠ "java/lang/invoke/VarHandle" ∧ (parseMethodDescriptor yX2_carry.desc).map (fun d => d.parameters.length) = some 2 := by decide +kernel
theorem hdX2_wipe : yX2_wipe.cls = RX2 ∧ yX2_wipe.cls ≠ "java/lang/invoke/MethodHandle" ∧ yX2_wipe.cls ≠ "java/lang/invoke/VarHandle" ∧ (parseMethodDescriptor yX2_wipe.desc).map (fun d => d.parameters.length) = some 3 := by decide +kernel
theorem hdX2_smash : yX2_smash.cls = RX2 ∧ yX2_smash.cls ≠ "java/lang/invoke/MethodHandle" ∧ yX2_smash.cls ≠ "java/lang/invoke/VarHandle" ∧ (parseMethodDescriptor yX2_smash.desc).map (fun d => d.parameters.length) = some 2 := by decide +kernel
theorem hdX2_check : yX2_check.cls = RX2 ∧ yX2_check.cls ≠ "java/lang/invoke/MethodHandle" ∧ yX2_check.cls ≠ "java/lang/invoke/VarHandle" ∧ (parseMethodDescriptor yX2_check.desc).map (fun d => d.parameters.length) = some 3 := by decide +kernel
theorem hdX2_lose : yX2_lose.cls = RX2 ∧ yX2_lose.cls ≠ "java/lang/invoke/MethodHandle" ∧ yX2_lose.cls ≠ "java/lang/invoke/VarHandle" ∧ (parseMethodDescriptor yX2_lose.desc).map (fun d => d.parameters.length) = some 1 := by decide +kernel
theorem hdX2_find : yX2_find.cls = RX2 ∧ yX2_find.cls ≠ "java/lang/invoke/MethodHandle" ∧ yX2_find.cls ≠ "java/lang/invoke/VarHandle" ∧ (parseMethodDescriptor yX2_find.desc).map (fun d => d.parameters.length) = some 1 := by decide +kernel
theorem hdX2_certify : yX2_certify.cls = RX2 ∧ yX2_certify.cls ≠ "java/lang/invoke/MethodHandle" ∧ yX2_certify.cls ≠ "java/lang/invoke/VarHandle" ∧ (parseMethodDescriptor yX2_certify.desc).map (fun d => d.parameters.length) = some 1 := by decide +kernel
theorem hdX2_disks : yX2_disks.cls = RX2 ∧ yX2_disks.cls ≠ "java/lang/invoke/MethodHandle" ∧ yX2_disks.cls ≠ "java/lang/invoke/VarHandle" ∧ (parseMethodDescriptor yX2_disks.desc).map (fun d => d.parameters.length) = some 0 := by decide +kernel
theorem hdX2_keeperOf : yX2_keeperOf.cls = RX2 ∧ yX2_keeperOf.cls ≠ "java/lang/invoke/MethodHandle" ∧ yX2_keeperOf.cls ≠ "java/lang/invoke/VarHandle" ∧ (parseMethodDescriptor yX2_keeperOf.desc).map (fun d => d.parameters.length) = some 1 := by decide +kernel
theorem hdX2_keeperByLog : yX2_keeperByLog.cls = RX2 ∧ yX2_keeperByLog.cls ≠ "java/lang/invoke/MethodHandle" ∧ yX2_keeperByLog.cls ≠ "java/lang/invoke/VarHandle" ∧ (parseMethodDescriptor yX2_keeperByLog.desc).map (fun d => d.parameters.length) = some 1 := by decide +kernel
theorem hdX2_crateOf : yX2_crateOf.cls = RX2 ∧ yX2_crateOf.cls ≠ "java/lang/invoke/MethodHandle" ∧ yX2_crateOf.cls ≠ "java/lang/invoke/VarHandle" ∧ (parseMethodDescriptor yX2_crateOf.desc).map (fun d => d.parameters.length) = some 1 := by decide +kernel
theorem hdX2_stateOf : yX2_stateOf.cls = RX2 ∧ yX2_stateOf.cls ≠ "java/lang/invoke/MethodHandle" ∧ yX2_stateOf.cls ≠ "java/lang/invoke/VarHandle" ∧ (parseMethodDescriptor yX2_stateOf.desc).map (fun d => d.parameters.length) = some 1 := by decide +kernel
theorem hdX2_isDone : yX2_isDone.cls = RX2 ∧ yX2_isDone.cls ≠ "java/lang/invoke/MethodHandle" ∧ yX2_isDone.cls ≠ "java/lang/invoke/VarHandle" ∧ (parseMethodDescriptor yX2_isDone.desc).map (fun d => d.parameters.length) = some 1 := by decide +kernel
theorem hdX2_offeredTo : yX2_offeredTo.cls = RX2 ∧ yX2_offeredTo.cls ≠ "java/lang/invoke/MethodHandle" ∧ yX2_offeredTo.cls ≠ "java/lang/invoke/VarHandle" ∧ (parseMethodDescriptor yX2_offeredTo.desc).map (fun d => d.parameters.length) = some 1 := by decide +kernel
theorem hdX2_certificateOf : yX2_certificateOf.cls = RX2 ∧ yX2_certificateOf.cls ≠ "java/lang/invoke/MethodHandle" ∧ yX2_certificateOf.cls ≠ "java/lang/invoke/VarHandle" ∧ (parseMethodDescriptor yX2_certificateOf.desc).map (fun d => d.parameters.length) = some 1 := by decide +kernel
theorem hdX2_crateKeeper : yX2_crateKeeper.cls = RX2 ∧ yX2_crateKeeper.cls ≠ "java/lang/invoke/MethodHandle" ∧ yX2_crateKeeper.cls ≠ "java/lang/invoke/VarHandle" ∧ (parseMethodDescriptor yX2_crateKeeper.desc).map (fun d => d.parameters.length) = some 1 := by decide +kernel
theorem hdX2_sealOf : yX2_sealOf.cls = RX2 ∧ yX2_sealOf.cls ≠ "java/lang/invoke/MethodHandle" ∧ yX2_sealOf.cls ≠ "java/lang/invoke/VarHandle" ∧ (parseMethodDescriptor yX2_sealOf.desc).map (fun d => d.parameters.length) = some 1 := by decide +kernel
theorem hdX2_has : yX2_has.cls = RX2 ∧ yX2_has.cls ≠ "java/lang/invoke/MethodHandle" ∧ yX2_has.cls ≠ "java/lang/invoke/VarHandle" ∧ (parseMethodDescriptor yX2_has.desc).map (fun d => d.parameters.length) = some 1 := by decide +kernel
theorem hdX2_missing : yX2_missing.cls = RX2 ∧ yX2_missing.cls ≠ "java/lang/invoke/MethodHandle" ∧ yX2_missing.cls ≠ "java/lang/invoke/VarHandle" ∧ (parseMethodDescriptor yX2_missing.desc).map (fun d => d.parameters.length) = some 0 := by decide +kernel
theorem hdX2_oddCounts : yX2_oddCounts.cls = RX2 ∧ yX2_oddCounts.cls ≠ "java/lang/invoke/MethodHandle" ∧ yX2_oddCounts.cls ≠ "java/lang/invoke/VarHandle" ∧ (parseMethodDescriptor yX2_oddCounts.desc).map (fun d => d.parameters.length) = some 0 := by decide +kernel
theorem hdX2_logged : yX2_logged.cls = RX2 ∧ yX2_logged.cls ≠ "java/lang/invoke/MethodHandle" ∧ yX2_logged.cls ≠ "java/lang/invoke/VarHandle" ∧ (parseMethodDescriptor yX2_logged.desc).map (fun d => d.parameters.length) = some 0 := by decide +kernel
theorem hdX2_certificates : yX2_certificates.cls = RX2 ∧ yX2_certificates.cls ≠ "java/lang/invoke/MethodHandle" ∧ yX2_certificates.cls ≠ "java/lang/invoke/VarHandle" ∧ (parseMethodDescriptor yX2_certificates.desc).map (fun d => d.parameters.length) = some 0 := by decide +kernel
theorem hdX2_findDisk : yX2_findDisk.cls = RX2 ∧ yX2_findDisk.cls ≠ "java/lang/invoke/MethodHandle" ∧ yX2_findDisk.cls ≠ "java/lang/invoke/VarHandle" ∧ (parseMethodDescriptor yX2_findDisk.desc).map (fun d => d.parameters.length) = some 1 := by decide +kernel
theorem hdX2_findCrate : yX2_findCrate.cls = RX2 ∧ yX2_findCrate.cls ≠ "java/lang/invoke/MethodHandle" ∧ yX2_findCrate.cls ≠ "java/lang/invoke/VarHandle" ∧ (parseMethodDescriptor yX2_findCrate.desc).map (fun d => d.parameters.length) = some 1 := by decide +kernel
theorem hdX2_countDisksIn : yX2_countDisksIn.cls = RX2 ∧ yX2_countDisksIn.cls ≠ "java/lang/invoke/MethodHandle" ∧ yX2_countDisksIn.cls ≠ "java/lang/invoke/VarHandle" ∧ (parseMethodDescriptor yX2_countDisksIn.desc).map (fun d => d.parameters.length) = some 1 := by decide +kernel
theorem hdX2_handOverDisksIn : yX2_handOverDisksIn.cls = RX2 ∧ yX2_handOverDisksIn.cls ≠ "java/lang/invoke/MethodHandle" ∧ yX2_handOverDisksIn.cls ≠ "java/lang/invoke/VarHandle" ∧ (parseMethodDescriptor yX2_handOverDisksIn.desc).map (fun d => d.parameters.length) = some 1 := by decide +kernel
theorem hdX2_handOver : yX2_handOver.cls = RX2 ∧ yX2_handOver.cls ≠ "java/lang/invoke/MethodHandle" ∧ yX2_handOver.cls ≠ "java/lang/invoke/VarHandle" ∧ (parseMethodDescriptor yX2_handOver.desc).map (fun d => d.parameters.length) = some 2 := by decide +kernel
theorem hdX2_requireKeeper : yX2_requireKeeper.cls ≠ "java/lang/invoke/MethodHandle" ∧ yX2_requireKeeper.cls ≠ "java/lang/invoke/VarHandle" ∧ (parseMethodDescriptor yX2_requireKeeper.desc).map (fun d => d.parameters.length) = some 1 := by decide +kernel
theorem hdX2_requireLoose : yX2_requireLoose.cls ≠ "java/lang/invoke/MethodHandle" ∧ yX2_requireLoose.cls ≠ "java/lang/invoke/VarHandle" ∧ (parseMethodDescriptor yX2_requireLoose.desc).map (fun d => d.parameters.length) = some 1 := by decide +kernel
theorem hdX2_requireWithinReach : yX2_requireWithinReach.cls ≠ "java/lang/invoke/MethodHandle" ∧ yX2_requireWithinReach.cls ≠ "java/lang/invoke/VarHandle" ∧ (parseMethodDescriptor yX2_requireWithinReach.desc).map (fun d => d.parameters.length) = some 1 := by decide +kernel
theorem hdX2_requireWitnessIsNotKeeper : yX2_requireWitnessIsNotKeeper.cls ≠ "java/lang/invoke/MethodHandle" ∧ yX2_requireWitnessIsNotKeeper.cls ≠ "java/lang/invoke/VarHandle" ∧ (parseMethodDescriptor yX2_requireWitnessIsNotKeeper.desc).map (fun d => d.parameters.length) = some 2 := by decide +kernel
theorem hdX3_init : yX3_init.cls ≠ "java/lang/invoke/MethodHandle" ∧ yX3_init.cls ≠ "java/lang/invoke/VarHandle" ∧ (parseMethodDescriptor yX3_init.desc).map (fun d => d.parameters.length) = some 0 := by decide +kernel
theorem hdX3_thrown : yX3_thrown.cls = RX3 ∧ yX3_thrown.cls ≠ "java/lang/invoke/MethodHandle" ∧ yX3_thrown.cls ≠ "java/lang/invoke/VarHandle" ∧ (parseMethodDescriptor yX3_thrown.desc).map (fun d => d.parameters.length) = some 0 := by decide +kernel
theorem hdX3_can : yX3_can.cls = RX3 ∧ yX3_can.cls ≠ "java/lang/invoke/MethodHandle" ∧ yX3_can.cls ≠ "java/lang/invoke/VarHandle" ∧ (parseMethodDescriptor yX3_can.desc).map (fun d => d.parameters.length) = some 1 := by decide +kernel
theorem hdX3_isIn : yX3_isIn.cls ≠ "java/lang/invoke/MethodHandle" ∧ yX3_isIn.cls ≠ "java/lang/invoke/VarHandle" ∧ (parseMethodDescriptor yX3_isIn.desc).map (fun d => d.parameters.length) = some 3 := by decide +kernel
theorem hdX3_isDisk : yX3_isDisk.cls = RX3 ∧ yX3_isDisk.cls ≠ "java/lang/invoke/MethodHandle" ∧ yX3_isDisk.cls ≠ "java/lang/invoke/VarHandle" ∧ (parseMethodDescriptor yX3_isDisk.desc).map (fun d => d.parameters.length) = some 1 := by decide +kernel
theorem hdX3_isKeeper : yX3_isKeeper.cls ≠ "java/lang/invoke/MethodHandle" ∧ yX3_isKeeper.cls ≠ "java/lang/invoke/VarHandle" ∧ (parseMethodDescriptor yX3_isKeeper.desc).map (fun d => d.parameters.length) = some 1 := by decide +kernel
theorem hdX3_isCrate : yX3_isCrate.cls ≠ "java/lang/invoke/MethodHandle" ∧ yX3_isCrate.cls ≠ "java/lang/invoke/VarHandle" ∧ (parseMethodDescriptor yX3_isCrate.desc).map (fun d => d.parameters.length) = some 1 := by decide +kernel
theorem hdX3_isShut : yX3_isShut.cls = RX3 ∧ yX3_isShut.cls ≠ "java/lang/invoke/MethodHandle" ∧ yX3_isShut.cls ≠ "java/lang/invoke/VarHandle" ∧ (parseMethodDescriptor yX3_isShut.desc).map (fun d => d.parameters.length) = some 1 := by decide +kernel
theorem hdX3_isBarred : yX3_isBarred.cls = RX3 ∧ yX3_isBarred.cls ≠ "java/lang/invoke/MethodHandle" ∧ yX3_isBarred.cls ≠ "java/lang/invoke/VarHandle" ∧ (parseMethodDescriptor yX3_isBarred.desc).map (fun d => d.parameters.length) = some 1 := by decide +kernel
theorem hdX3_bring : yX3_bring.cls = RX3 ∧ yX3_bring.cls ≠ "java/lang/invoke/MethodHandle" ∧ yX3_bring.cls ≠ "java/lang/invoke/VarHandle" ∧ (parseMethodDescriptor yX3_bring.desc).map (fun d => d.parameters.length) = some 3 := by decide +kernel
theorem hdX3_offer : yX3_offer.cls = RX3 ∧ yX3_offer.cls ≠ "java/lang/invoke/MethodHandle" ∧ yX3_offer.cls ≠ "java/lang/invoke/VarHandle" ∧ (parseMethodDescriptor yX3_offer.desc).map (fun d => d.parameters.length) = some 2 := by decide +kernel
theorem hdX3_answer : yX3_answer.cls = RX3 ∧ yX3_answer.cls ≠ "java/lang/invoke/MethodHandle" ∧ yX3_answer.cls ≠ "java/lang/invoke/VarHandle" ∧ (parseMethodDescriptor yX3_answer.desc).map (fun d => d.parameters.length) = some 2 := by decide +kernel
theorem hdX3_countIn : yX3_countIn.cls = RX3 ∧ yX3_countIn.cls ≠ "java/lang/invoke/MethodHandle" ∧ yX3_countIn.cls ≠ "java/lang/invoke/VarHandle" ∧ (parseMethodDescriptor yX3_countIn.desc).map (fun d => d.parameters.length) = some 1 := by decide +kernel
theorem hdX3_pack : yX3_pack.cls = RX3 ∧ yX3_pack.cls ≠ "java/lang/invoke/MethodHandle" ∧ yX3_pack.cls ≠ "java/lang/invoke/VarHandle" ∧ (parseMethodDescriptor yX3_pack.desc).map (fun d => d.parameters.length) = some 2 := by decide +kernel
theorem hdX3_unpack : yX3_unpack.cls = RX3 ∧ yX3_unpack.cls ≠ "java/lang/invoke/MethodHandle" ∧ yX3_unpack.cls ≠ "java/lang/invoke/VarHandle" ∧ (parseMethodDescriptor yX3_unpack.desc).map (fun d => d.parameters.length) = some 1 := by decide +kernel
theorem hdX3_seal : yX3_seal.cls = RX3 ∧ yX3_seal.cls ≠ "java/lang/invoke/MethodHandle" ∧ yX3_seal.cls ≠ "java/lang/invoke/VarHandle" ∧ (parseMethodDescriptor yX3_seal.desc).map (fun d => d.parameters.length) = some 1 := by decide +kernel
theorem hdX3_open : yX3_open.cls = RX3 ∧ yX3_open.cls ≠ "java/lang/invoke/MethodHandle" ∧ yX3_open.cls ≠ "java/lang/invoke/VarHandle" ∧ (parseMethodDescriptor yX3_open.desc).map (fun d => d.parameters.length) = some 2 := by decide +kernel
theorem hdX3_carry : yX3_carry.cls = RX3 ∧ yX3_carry.cls ≠ "java/lang/invoke/MethodHandle" ∧ yX3_carry.cls ≠ "java/lang/invoke/VarHandle" ∧ (parseMethodDescriptor yX3_carry.desc).map (fun d => d.parameters.length) = some 2 := by decide +kernel
theorem hdX3_wipe : yX3_wipe.cls = RX3 ∧ yX3_wipe.cls ≠ "java/lang/invoke/MethodHandle" ∧ yX3_wipe.cls ≠ "java/lang/invoke/VarHandle" ∧ (parseMethodDescriptor yX3_wipe.desc).map (fun d => d.parameters.length) = some 3 := by decide +kernel
theorem hdX3_smash : yX3_smash.cls = RX3 ∧ yX3_smash.cls ≠ "java/lang/invoke/MethodHandle" ∧ yX3_smash.cls ≠ "java/lang/invoke/VarHandle" ∧ (parseMethodDescriptor yX3_smash.desc).map (fun d => d.parameters.length) = some 2 := by decide +kernel
theorem hdX3_check : yX3_check.cls = RX3 ∧ yX3_check.cls ≠ "java/lang/invoke/MethodHandle" ∧ yX3_check.cls ≠ "java/lang/invoke/VarHandle" ∧ (parseMethodDescriptor yX3_check.desc).map (fun d => d.parameters.length) = some 3 := by decide +kernel
theorem hdX3_lose : yX3_lose.cls = RX3 ∧ yX3_lose.cls ≠ "java/lang/invoke/MethodHandle" ∧ yX3_lose.cls ≠ "java/lang/invoke/VarHandle" ∧ (parseMethodDescriptor yX3_lose.desc).map (fun d => d.parameters.length) = some 1 := by decide +kernel
theorem hdX3_find : yX3_find.cls = RX3 ∧ yX3_find.cls ≠ "java/lang/invoke/MethodHandle" ∧ yX3_find.cls ≠ "java/lang/invoke/VarHandle" ∧ (parseMethodDescriptor yX3_find.desc).map (fun d => d.parameters.length) = some 1 := by decide +kernel
theorem hdX3_isOver : yX3_isOver.cls = RX3 ∧ yX3_isOver.cls ≠ "java/lang/invoke/MethodHandle" ∧ yX3_isOver.cls ≠ "java/lang/invoke/VarHandle" ∧ (parseMethodDescriptor yX3_isOver.desc).map (fun d => d.parameters.length) = some 1 := by decide +kernel
theorem hdX3_certify : yX3_certify.cls = RX3 ∧ yX3_certify.cls ≠ "java/lang/invoke/MethodHandle" ∧ yX3_certify.cls ≠ "java/lang/invoke/VarHandle" ∧ (parseMethodDescriptor yX3_certify.desc).map (fun d => d.parameters.length) = some 1 := by decide +kernel
theorem hdX3_disks : yX3_disks.cls = RX3 ∧ yX3_disks.cls ≠ "java/lang/invoke/MethodHandle" ∧ yX3_disks.cls ≠ "java/lang/invoke/VarHandle" ∧ (parseMethodDescriptor yX3_disks.desc).map (fun d => d.parameters.length) = some 0 := by decide +kernel
theorem hdX3_isAsked : yX3_isAsked.cls = RX3 ∧ yX3_isAsked.cls ≠ "java/lang/invoke/MethodHandle" ∧ yX3_isAsked.cls ≠ "java/lang/invoke/VarHandle" ∧ (parseMethodDescriptor yX3_isAsked.desc).map (fun d => d.parameters.length) = some 1 := by decide +kernel
theorem hdX3_keeperOf : yX3_keeperOf.cls = RX3 ∧ yX3_keeperOf.cls ≠ "java/lang/invoke/MethodHandle" ∧ yX3_keeperOf.cls ≠ "java/lang/invoke/VarHandle" ∧ (parseMethodDescriptor yX3_keeperOf.desc).map (fun d => d.parameters.length) = some 1 := by decide +kernel
theorem hdX3_keeperByLog : yX3_keeperByLog.cls = RX3 ∧ yX3_keeperByLog.cls ≠ "java/lang/invoke/MethodHandle" ∧ yX3_keeperByLog.cls ≠ "java/lang/invoke/VarHandle" ∧ (parseMethodDescriptor yX3_keeperByLog.desc).map (fun d => d.parameters.length) = some 1 := by decide +kernel
theorem hdX3_crateOf : yX3_crateOf.cls = RX3 ∧ yX3_crateOf.cls ≠ "java/lang/invoke/MethodHandle" ∧ yX3_crateOf.cls ≠ "java/lang/invoke/VarHandle" ∧ (parseMethodDescriptor yX3_crateOf.desc).map (fun d => d.parameters.length) = some 1 := by decide +kernel
theorem hdX3_stateOf : yX3_stateOf.cls = RX3 ∧ yX3_stateOf.cls ≠ "java/lang/invoke/MethodHandle" ∧ yX3_stateOf.cls ≠ "java/lang/invoke/VarHandle" ∧ (parseMethodDescriptor yX3_stateOf.desc).map (fun d => d.parameters.length) = some 1 := by decide +kernel
theorem hdX3_isDone : yX3_isDone.cls = RX3 ∧ yX3_isDone.cls ≠ "java/lang/invoke/MethodHandle" ∧ yX3_isDone.cls ≠ "java/lang/invoke/VarHandle" ∧ (parseMethodDescriptor yX3_isDone.desc).map (fun d => d.parameters.length) = some 1 := by decide +kernel
theorem hdX3_offeredTo : yX3_offeredTo.cls = RX3 ∧ yX3_offeredTo.cls ≠ "java/lang/invoke/MethodHandle" ∧ yX3_offeredTo.cls ≠ "java/lang/invoke/VarHandle" ∧ (parseMethodDescriptor yX3_offeredTo.desc).map (fun d => d.parameters.length) = some 1 := by decide +kernel
theorem hdX3_certificateOf : yX3_certificateOf.cls = RX3 ∧ yX3_certificateOf.cls ≠ "java/lang/invoke/MethodHandle" ∧ yX3_certificateOf.cls ≠ "java/lang/invoke/VarHandle" ∧ (parseMethodDescriptor yX3_certificateOf.desc).map (fun d => d.parameters.length) = some 1 := by decide +kernel
theorem hdX3_crateKeeper : yX3_crateKeeper.cls = RX3 ∧ yX3_crateKeeper.cls ≠ "java/lang/invoke/MethodHandle" ∧ yX3_crateKeeper.cls ≠ "java/lang/invoke/VarHandle" ∧ (parseMethodDescriptor yX3_crateKeeper.desc).map (fun d => d.parameters.length) = some 1 := by decide +kernel
theorem hdX3_sealOf : yX3_sealOf.cls = RX3 ∧ yX3_sealOf.cls ≠ "java/lang/invoke/MethodHandle" ∧ yX3_sealOf.cls ≠ "java/lang/invoke/VarHandle" ∧ (parseMethodDescriptor yX3_sealOf.desc).map (fun d => d.parameters.length) = some 1 := by decide +kernel
theorem hdX3_has : yX3_has.cls = RX3 ∧ yX3_has.cls ≠ "java/lang/invoke/MethodHandle" ∧ yX3_has.cls ≠ "java/lang/invoke/VarHandle" ∧ (parseMethodDescriptor yX3_has.desc).map (fun d => d.parameters.length) = some 1 := by decide +kernel
theorem hdX3_missing : yX3_missing.cls = RX3 ∧ yX3_missing.cls ≠ "java/lang/invoke/MethodHandle" ∧ yX3_missing.cls ≠ "java/lang/invoke/VarHandle" ∧ (parseMethodDescriptor yX3_missing.desc).map (fun d => d.parameters.length) = some 0 := by decide +kernel
theorem hdX3_oddCounts : yX3_oddCounts.cls = RX3 ∧ yX3_oddCounts.cls ≠ "java/lang/invoke/MethodHandle" ∧ yX3_oddCounts.cls ≠ "java/lang/invoke/VarHandle" ∧ (parseMethodDescriptor yX3_oddCounts.desc).map (fun d => d.parameters.length) = some 0 := by decide +kernel
theorem hdX3_logged : yX3_logged.cls = RX3 ∧ yX3_logged.cls ≠ "java/lang/invoke/MethodHandle" ∧ yX3_logged.cls ≠ "java/lang/invoke/VarHandle" ∧ (parseMethodDescriptor yX3_logged.desc).map (fun d => d.parameters.length) = some 0 := by decide +kernel
theorem hdX3_certificates : yX3_certificates.cls = RX3 ∧ yX3_certificates.cls ≠ "java/lang/invoke/MethodHandle" ∧ yX3_certificates.cls ≠ "java/lang/invoke/VarHandle" ∧ (parseMethodDescriptor yX3_certificates.desc).map (fun d => d.parameters.length) = some 0 := by decide +kernel
theorem hdL_bring : yL_bring.cls ≠ "java/lang/invoke/MethodHandle" ∧ yL_bring.cls ≠ "java/lang/invoke/VarHandle" ∧ (parseMethodDescriptor yL_bring.desc).map (fun d => d.parameters.length) = some 5 := by decide +kernel
theorem hdL_offer : yL_offer.cls ≠ "java/lang/invoke/MethodHandle" ∧ yL_offer.cls ≠ "java/lang/invoke/VarHandle" ∧ (parseMethodDescriptor yL_offer.desc).map (fun d => d.parameters.length) = some 4 := by decide +kernel
theorem hdL_answer : yL_answer.cls ≠ "java/lang/invoke/MethodHandle" ∧ yL_answer.cls ≠ "java/lang/invoke/VarHandle" ∧ (parseMethodDescriptor yL_answer.desc).map (fun d => d.parameters.length) = some 4 := by decide +kernel
theorem hdL_pack : yL_pack.cls ≠ "java/lang/invoke/MethodHandle" ∧ yL_pack.cls ≠ "java/lang/invoke/VarHandle" ∧ (parseMethodDescriptor yL_pack.desc).map (fun d => d.parameters.length) = some 4 := by decide +kernel
theorem hdL_unpack : yL_unpack.cls ≠ "java/lang/invoke/MethodHandle" ∧ yL_unpack.cls ≠ "java/lang/invoke/VarHandle" ∧ (parseMethodDescriptor yL_unpack.desc).map (fun d => d.parameters.length) = some 3 := by decide +kernel
theorem hdL_seal : yL_seal.cls ≠ "java/lang/invoke/MethodHandle" ∧ yL_seal.cls ≠ "java/lang/invoke/VarHandle" ∧ (parseMethodDescriptor yL_seal.desc).map (fun d => d.parameters.length) = some 3 := by decide +kernel
theorem hdL_open : yL_open.cls ≠ "java/lang/invoke/MethodHandle" ∧ yL_open.cls ≠ "java/lang/invoke/VarHandle" ∧ (parseMethodDescriptor yL_open.desc).map (fun d => d.parameters.length) = some 4 := by decide +kernel
theorem hdL_carry : yL_carry.cls ≠ "java/lang/invoke/MethodHandle" ∧ yL_carry.cls ≠ "java/lang/invoke/VarHandle" ∧ (parseMethodDescriptor yL_carry.desc).map (fun d => d.parameters.length) = some 4 := by decide +kernel
theorem hdL_wipe : yL_wipe.cls ≠ "java/lang/invoke/MethodHandle" ∧ yL_wipe.cls ≠ "java/lang/invoke/VarHandle" ∧ (parseMethodDescriptor yL_wipe.desc).map (fun d => d.parameters.length) = some 5 := by decide +kernel
theorem hdL_smash : yL_smash.cls ≠ "java/lang/invoke/MethodHandle" ∧ yL_smash.cls ≠ "java/lang/invoke/VarHandle" ∧ (parseMethodDescriptor yL_smash.desc).map (fun d => d.parameters.length) = some 4 := by decide +kernel
theorem hdL_check : yL_check.cls ≠ "java/lang/invoke/MethodHandle" ∧ yL_check.cls ≠ "java/lang/invoke/VarHandle" ∧ (parseMethodDescriptor yL_check.desc).map (fun d => d.parameters.length) = some 5 := by decide +kernel
theorem hdL_lose : yL_lose.cls ≠ "java/lang/invoke/MethodHandle" ∧ yL_lose.cls ≠ "java/lang/invoke/VarHandle" ∧ (parseMethodDescriptor yL_lose.desc).map (fun d => d.parameters.length) = some 3 := by decide +kernel
theorem hdL_find : yL_find.cls ≠ "java/lang/invoke/MethodHandle" ∧ yL_find.cls ≠ "java/lang/invoke/VarHandle" ∧ (parseMethodDescriptor yL_find.desc).map (fun d => d.parameters.length) = some 3 := by decide +kernel
theorem hdL_certify : yL_certify.cls ≠ "java/lang/invoke/MethodHandle" ∧ yL_certify.cls ≠ "java/lang/invoke/VarHandle" ∧ (parseMethodDescriptor yL_certify.desc).map (fun d => d.parameters.length) = some 3 := by decide +kernel
theorem hdL_keeperOf : yL_keeperOf.cls ≠ "java/lang/invoke/MethodHandle" ∧ yL_keeperOf.cls ≠ "java/lang/invoke/VarHandle" ∧ (parseMethodDescriptor yL_keeperOf.desc).map (fun d => d.parameters.length) = some 3 := by decide +kernel
theorem hdL_keeperByLog : yL_keeperByLog.cls ≠ "java/lang/invoke/MethodHandle" ∧ yL_keeperByLog.cls ≠ "java/lang/invoke/VarHandle" ∧ (parseMethodDescriptor yL_keeperByLog.desc).map (fun d => d.parameters.length) = some 3 := by decide +kernel
theorem hdL_crateOf : yL_crateOf.cls ≠ "java/lang/invoke/MethodHandle" ∧ yL_crateOf.cls ≠ "java/lang/invoke/VarHandle" ∧ (parseMethodDescriptor yL_crateOf.desc).map (fun d => d.parameters.length) = some 3 := by decide +kernel
theorem hdL_stateOf : yL_stateOf.cls ≠ "java/lang/invoke/MethodHandle" ∧ yL_stateOf.cls ≠ "java/lang/invoke/VarHandle" ∧ (parseMethodDescriptor yL_stateOf.desc).map (fun d => d.parameters.length) = some 3 := by decide +kernel
theorem hdL_isDone : yL_isDone.cls ≠ "java/lang/invoke/MethodHandle" ∧ yL_isDone.cls ≠ "java/lang/invoke/VarHandle" ∧ (parseMethodDescriptor yL_isDone.desc).map (fun d => d.parameters.length) = some 3 := by decide +kernel
theorem hdL_offeredTo : yL_offeredTo.cls ≠ "java/lang/invoke/MethodHandle" ∧ yL_offeredTo.cls ≠ "java/lang/invoke/VarHandle" ∧ (parseMethodDescriptor yL_offeredTo.desc).map (fun d => d.parameters.length) = some 3 := by decide +kernel
theorem hdL_certificateOf : yL_certificateOf.cls ≠ "java/lang/invoke/MethodHandle" ∧ yL_certificateOf.cls ≠ "java/lang/invoke/VarHandle" ∧ (parseMethodDescriptor yL_certificateOf.desc).map (fun d => d.parameters.length) = some 3 := by decide +kernel
theorem hdL_crateKeeper : yL_crateKeeper.cls ≠ "java/lang/invoke/MethodHandle" ∧ yL_crateKeeper.cls ≠ "java/lang/invoke/VarHandle" ∧ (parseMethodDescriptor yL_crateKeeper.desc).map (fun d => d.parameters.length) = some 3 := by decide +kernel
theorem hdL_sealOf : yL_sealOf.cls ≠ "java/lang/invoke/MethodHandle" ∧ yL_sealOf.cls ≠ "java/lang/invoke/VarHandle" ∧ (parseMethodDescriptor yL_sealOf.desc).map (fun d => d.parameters.length) = some 3 := by decide +kernel
theorem hdL_has : yL_has.cls ≠ "java/lang/invoke/MethodHandle" ∧ yL_has.cls ≠ "java/lang/invoke/VarHandle" ∧ (parseMethodDescriptor yL_has.desc).map (fun d => d.parameters.length) = some 3 := by decide +kernel
end
section
set_option maxHeartbeats 4000000 in
set_option maxRecDepth 100000 in
/-- Crate.isSealed -/
theorem c_X0_isSealed (l : Launch) (D : va_G) (cD cC cI cZ cL : ClassId) (A : Nat → Prop) (σ : pgSt) (n : Nat) (ad : Nat → Nat) (c : Nat) (hc : c < 10) : Met l yX0_isSealed (.code yX0_isSealed cX0_isSealed 1 (some .boolean) :: pgWd) ({ frames := 0, cells := 0, slots := 0, locals := 0 } : Room) (pgPc D (pgTys cD cC cI cZ cL) A (pgR D cD cC A σ n ad) [.ref (ad (3 + c))]) (va_Qi (fun (r : Int32) (_ : Unit) => r = if ¬ σ 11 c = -1 then 1 else 0) (fun _ t9 => pgR D cD cC A σ n ad t9.heap) A) 0 0 A := by
  refine pg_enter (own := RX0) (by decide) rfl (Nat.le_of_ble_eq_true rfl) (fun p e s m below meth cc9 B hr hnm => ?_)
  refine j_aload_n B dX0_isSealed_0 0 rfl rfl ?_
  refine j_get B (v := .int (σ 11 c)) pgX0 rfl (fun H h => pgR.cr h hc) 2 (by decide) q_33 rfl rfl dX0_isSealed_1 ?_
  refine j_iconst B (v := (-1)) dX0_isSealed_4 (by decide) ?_
  refine j_icmp_eq B 12 dX0_isSealed_5 (by decide) (fun h1 => ?_) (fun h1 => ?_)
  · refine j_iconst B (v := 0) dX0_isSealed_12 (by decide) ?_
    exact j_iret B hr rfl dX0_isSealed_13 (Nat.le_of_ble_eq_true rfl) (Nat.le_of_ble_eq_true rfl) () (by simp [*]) (fun H h => h)
  · refine j_iconst B (v := 1) dX0_isSealed_8 (by decide) ?_
    refine j_goto B 13 dX0_isSealed_9 (by decide) ?_
    exact j_iret B hr rfl dX0_isSealed_13 (Nat.le_of_ble_eq_true rfl) (Nat.le_of_ble_eq_true rfl) () (by simp [*]) (fun H h => h)
set_option maxHeartbeats 4000000 in
set_option maxRecDepth 100000 in
/-- Disk.crateNumber -/
theorem c_X1_crateNumber (l : Launch) (D : va_G) (cD cC cI cZ cL : ClassId) (A : Nat → Prop) (σ : pgSt) (n : Nat) (ad : Nat → Nat) (j : Nat) (hj : j < n) (hcr : pgCr n σ) : Met l yX1_crateNumber (.code yX1_crateNumber cX1_crateNumber 1 (some .int) :: pgWd) ({ frames := 0, cells := 0, slots := 0, locals := 0 } : Room) (pgPc D (pgTys cD cC cI cZ cL) A (pgR D cD cC A σ n ad) [.ref (ad (13 + j))]) (va_Qi (fun (r : Int32) (_ : Unit) => r = σ 3 j) (fun _ t9 => pgR D cD cC A σ n ad t9.heap) A) 0 0 A := by
  refine pg_enter (own := RX1) (by decide) rfl (Nat.le_of_ble_eq_true rfl) (fun p e s m below meth cc9 B hr hnm => ?_)
  refine j_aload_n B dX1_crateNumber_0 0 rfl rfl ?_
  rcases hcr j hj with e3 | ⟨c1, hc2, e3⟩
  · refine j_get B (v := .null) pgX1 rfl (fun H h => pgR.dk h hj) 4 (by decide) q_212 rfl (congrArg some (pgCv_null e3)) dX1_crateNumber_1 ?_
    refine j_ifnonnullN B dX1_crateNumber_4 ?_
    refine j_iconst B (v := (-1)) dX1_crateNumber_7 (by decide) ?_
    refine j_goto B 18 dX1_crateNumber_8 (by decide) ?_
    exact j_iret B hr rfl dX1_crateNumber_18 (Nat.le_of_ble_eq_true rfl) (Nat.le_of_ble_eq_true rfl) () (by simp [*]) (fun H h => h)
  · have xe3 := pgCx hc2 e3
    refine j_get B (v := .ref (ad (3 + c1))) pgX1 rfl (fun H h => pgR.dk h hj) 4 (by decide) q_212 rfl (congrArg some (pgCv_ref hc2 e3)) dX1_crateNumber_1 ?_
    refine j_ifnonnull B 11 dX1_crateNumber_4 (by decide) ?_
    refine j_aload_n B dX1_crateNumber_11 0 rfl rfl ?_
    refine j_get B (v := .ref (ad (3 + c1))) pgX1 rfl (fun H h => pgR.dk h hj) 4 (by decide) q_212 rfl (congrArg some (pgCv_ref hc2 e3)) dX1_crateNumber_12 ?_
    refine j_get B (v := .int (nI c1)) pgX0 rfl (fun H h => pgR.cr h hc2) 0 (by decide) q_30 rfl rfl dX1_crateNumber_15 ?_
    exact j_iret B hr rfl dX1_crateNumber_18 (Nat.le_of_ble_eq_true rfl) (Nat.le_of_ble_eq_true rfl) () (by simp [*]) (fun H h => h)
set_option maxHeartbeats 4000000 in
set_option maxRecDepth 100000 in
/-- Disk.isSealedIn -/
theorem c_X1_isSealedIn (l : Launch) (D : va_G) (cD cC cI cZ cL : ClassId) (A : Nat → Prop) (σ : pgSt) (n : Nat) (ad : Nat → Nat) (j : Nat) (hj : j < n) (hcr : pgCr n σ) : Met l yX1_isSealedIn (.code yX1_isSealedIn cX1_isSealedIn 1 (some .boolean) :: pgWd) ({ frames := 1, cells := 0, slots := 0, locals := 20 } : Room) (pgPc D (pgTys cD cC cI cZ cL) A (pgR D cD cC A σ n ad) [.ref (ad (13 + j))]) (va_Qi (fun (r : Int32) (_ : Unit) => r = if pgShut σ j then 1 else 0) (fun _ t9 => pgR D cD cC A σ n ad t9.heap) A) 0 0 A := by
  refine pg_enter (own := RX1) (by decide) rfl (Nat.le_of_ble_eq_true rfl) (fun p e s m below meth cc9 B hr hnm => ?_)
  refine j_aload_n B dX1_isSealedIn_0 0 rfl rfl ?_
  rcases hcr j hj with e3 | ⟨c1, hc2, e3⟩
  · refine j_get B (v := .null) pgX1 rfl (fun H h => pgR.dk h hj) 4 (by decide) q_212 rfl (congrArg some (pgCv_null e3)) dX1_isSealedIn_1 ?_
    refine j_ifnullN B 21 dX1_isSealedIn_4 (by decide) ?_
    refine j_iconst B (v := 0) dX1_isSealedIn_21 (by decide) ?_
    exact j_iret B hr rfl dX1_isSealedIn_22 (Nat.le_of_ble_eq_true rfl) (Nat.le_of_ble_eq_true rfl) () (by grind) (fun H h => h)
  · have xe3 := pgCx hc2 e3
    refine j_get B (v := .ref (ad (3 + c1))) pgX1 rfl (fun H h => pgR.dk h hj) 4 (by decide) q_212 rfl (congrArg some (pgCv_ref hc2 e3)) dX1_isSealedIn_1 ?_
    refine j_ifnull B dX1_isSealedIn_4 ?_
    refine j_aload_n B dX1_isSealedIn_7 0 rfl rfl ?_
    refine j_get B (v := .ref (ad (3 + c1))) pgX1 rfl (fun H h => pgR.dk h hj) 4 (by decide) q_212 rfl (congrArg some (pgCv_ref hc2 e3)) dX1_isSealedIn_8 ?_
    refine j_cVi B (S := Unit) 0 [] (WdC' := fun _ => pgR D cD cC A σ n ad) (fun _ => pgR D cD cC A σ n ad) (c_X0_isSealed l D cD cC cI cZ cL A σ n ad c1 hc2) rfl (fun H h => pgR.cr h hc2) q_360 q_291 q_292 q_2 q_293 hdX0_isSealed rfl ⟨Nat.le_of_ble_eq_true rfl, Nat.le_of_ble_eq_true rfl⟩ (Nat.le_of_ble_eq_true rfl) dX1_isSealedIn_11 rfl ⟨Nat.le_of_ble_eq_true rfl, Nat.le_of_ble_eq_true rfl⟩ (fun _ h => h) (fun _ _ _ _ h => h) (fun _ h => h) (fun _ _ _ _ h _ _ => h) (fun r4 _ hp5 => ?_)
    by_cases h6 : ¬ σ 11 c1 = -1
    · obtain rfl : r4 = 1 := by rw [hp5]; exact if_pos h6
      refine j_if_eq B 21 dX1_isSealedIn_14 (by decide) (fun h7 => (absurd h7 (by decide))) (fun h7 => ?_)
      refine j_iconst B (v := 1) dX1_isSealedIn_17 (by decide) ?_
      refine j_goto B 22 dX1_isSealedIn_18 (by decide) ?_
      exact j_iret B hr rfl dX1_isSealedIn_22 (Nat.le_of_ble_eq_true rfl) (Nat.le_of_ble_eq_true rfl) () (by grind) (fun H h => h)
    · obtain rfl : r4 = 0 := by rw [hp5]; exact if_neg h6
      refine j_if_eq B 21 dX1_isSealedIn_14 (by decide) (fun h8 => ?_) (fun h8 => (absurd (by decide) h8))
      refine j_iconst B (v := 0) dX1_isSealedIn_21 (by decide) ?_
      exact j_iret B hr rfl dX1_isSealedIn_22 (Nat.le_of_ble_eq_true rfl) (Nat.le_of_ble_eq_true rfl) () (by grind) (fun H h => h)
set_option maxHeartbeats 4000000 in
set_option maxRecDepth 100000 in
/-- Disk.isFinished -/
theorem c_X1_isFinished (l : Launch) (D : va_G) (cD cC cI cZ cL : ClassId) (A : Nat → Prop) (σ : pgSt) (n : Nat) (ad : Nat → Nat) (j : Nat) (hj : j < n) : Met l yX1_isFinished (.code yX1_isFinished cX1_isFinished 1 (some .boolean) :: pgWd) ({ frames := 0, cells := 0, slots := 0, locals := 0 } : Room) (pgPc D (pgTys cD cC cI cZ cL) A (pgR D cD cC A σ n ad) [.ref (ad (13 + j))]) (va_Qi (fun (r : Int32) (_ : Unit) => r = if pgFin σ j then 1 else 0) (fun _ t9 => pgR D cD cC A σ n ad t9.heap) A) 0 0 A := by
  refine pg_enter (own := RX1) (by decide) rfl (Nat.le_of_ble_eq_true rfl) (fun p e s m below meth cc9 B hr hnm => ?_)
  refine j_aload_n B dX1_isFinished_0 0 rfl rfl ?_
  refine j_get B (v := .int (σ 4 j)) pgX1 rfl (fun H h => pgR.dk h hj) 6 (by decide) q_216 rfl rfl dX1_isFinished_1 ?_
  refine j_iconst B (v := 3) dX1_isFinished_4 (by decide) ?_
  refine j_icmp_eq B 23 dX1_isFinished_5 (by decide) (fun h1 => ?_) (fun h1 => ?_)
  · refine j_iconst B (v := 1) dX1_isFinished_23 (by decide) ?_
    refine j_goto B 28 dX1_isFinished_24 (by decide) ?_
    exact j_iret B hr rfl dX1_isFinished_28 (Nat.le_of_ble_eq_true rfl) (Nat.le_of_ble_eq_true rfl) () (by grind) (fun H h => h)
  · refine j_aload_n B dX1_isFinished_8 0 rfl rfl ?_
    refine j_get B (v := .int (σ 4 j)) pgX1 rfl (fun H h => pgR.dk h hj) 6 (by decide) q_216 rfl rfl dX1_isFinished_9 ?_
    refine j_iconst B (v := 1) dX1_isFinished_12 (by decide) ?_
    refine j_icmp_ne B 27 dX1_isFinished_13 (by decide) (fun h2 => ?_) (fun h2 => ?_)
    · refine j_iconst B (v := 0) dX1_isFinished_27 (by decide) ?_
      exact j_iret B hr rfl dX1_isFinished_28 (Nat.le_of_ble_eq_true rfl) (Nat.le_of_ble_eq_true rfl) () (by grind) (fun H h => h)
    · refine j_aload_n B dX1_isFinished_16 0 rfl rfl ?_
      refine j_get B (v := .int (σ 8 j)) pgX1 rfl (fun H h => pgR.dk h hj) 8 (by decide) q_220 rfl rfl dX1_isFinished_17 ?_
      refine j_if_eq B 27 dX1_isFinished_20 (by decide) (fun h3 => ?_) (fun h3 => ?_)
      · refine j_iconst B (v := 0) dX1_isFinished_27 (by decide) ?_
        exact j_iret B hr rfl dX1_isFinished_28 (Nat.le_of_ble_eq_true rfl) (Nat.le_of_ble_eq_true rfl) () (by grind) (fun H h => h)
      · refine j_iconst B (v := 1) dX1_isFinished_23 (by decide) ?_
        refine j_goto B 28 dX1_isFinished_24 (by decide) ?_
        exact j_iret B hr rfl dX1_isFinished_28 (Nat.le_of_ble_eq_true rfl) (Nat.le_of_ble_eq_true rfl) () (by grind) (fun H h => h)
set_option maxHeartbeats 4000000 in
set_option maxRecDepth 100000 in
/-- Disk.awaitsCertificate -/
theorem c_X1_awaitsCertificate (l : Launch) (D : va_G) (cD cC cI cZ cL : ClassId) (A : Nat → Prop) (σ : pgSt) (n : Nat) (ad : Nat → Nat) (j : Nat) (hj : j < n) : Met l yX1_awaitsCertificate (.code yX1_awaitsCertificate cX1_awaitsCertificate 1 (some .boolean) :: pgWd) ({ frames := 1, cells := 0, slots := 0, locals := 20 } : Room) (pgPc D (pgTys cD cC cI cZ cL) A (pgR D cD cC A σ n ad) [.ref (ad (13 + j))]) (va_Qi (fun (r : Int32) (_ : Unit) => r = if pgAw σ j then 1 else 0) (fun _ t9 => pgR D cD cC A σ n ad t9.heap) A) 0 0 A := by
  refine pg_enter (own := RX1) (by decide) rfl (Nat.le_of_ble_eq_true rfl) (fun p e s m below meth cc9 B hr hnm => ?_)
  refine j_aload_n B dX1_awaitsCertificate_0 0 rfl rfl ?_
  refine j_cVi B (S := Unit) 0 [] (WdC' := fun _ => pgR D cD cC A σ n ad) (fun _ => pgR D cD cC A σ n ad) (c_X1_isFinished l D cD cC cI cZ cL A σ n ad j hj) rfl (fun H h => pgR.dk h hj) q_408 q_409 q_410 q_10 q_411 hdX1_isFinished rfl ⟨Nat.le_of_ble_eq_true rfl, Nat.le_of_ble_eq_true rfl⟩ (Nat.le_of_ble_eq_true rfl) dX1_awaitsCertificate_1 rfl ⟨Nat.le_of_ble_eq_true rfl, Nat.le_of_ble_eq_true rfl⟩ (fun _ h => h) (fun _ _ _ _ h => h) (fun _ h => h) (fun _ _ _ _ h _ _ => h) (fun r1 _ hp2 => ?_)
  by_cases h3 : pgFin σ j
  · obtain rfl : r1 = 1 := by rw [hp2]; exact if_pos h3
    refine j_if_eq B 26 dX1_awaitsCertificate_4 (by decide) (fun h4 => (absurd h4 (by decide))) (fun h4 => ?_)
    refine j_aload_n B dX1_awaitsCertificate_7 0 rfl rfl ?_
    refine j_get B (v := .int (σ 5 j)) pgX1 rfl (fun H h => pgR.dk h hj) 9 (by decide) q_223 rfl rfl dX1_awaitsCertificate_8 ?_
    refine j_if_ne B 26 dX1_awaitsCertificate_11 (by decide) (fun h5 => ?_) (fun h5 => ?_)
    · refine j_iconst B (v := 0) dX1_awaitsCertificate_26 (by decide) ?_
      exact j_iret B hr rfl dX1_awaitsCertificate_27 (Nat.le_of_ble_eq_true rfl) (Nat.le_of_ble_eq_true rfl) () (by grind) (fun H h => h)
    · refine j_aload_n B dX1_awaitsCertificate_14 0 rfl rfl ?_
      refine j_get B (v := .int (σ 9 j)) pgX1 rfl (fun H h => pgR.dk h hj) 10 (by decide) q_224 rfl rfl dX1_awaitsCertificate_15 ?_
      refine j_iconst B (v := (-1)) dX1_awaitsCertificate_18 (by decide) ?_
      refine j_icmp_ne B 26 dX1_awaitsCertificate_19 (by decide) (fun h6 => ?_) (fun h6 => ?_)
      · refine j_iconst B (v := 0) dX1_awaitsCertificate_26 (by decide) ?_
        exact j_iret B hr rfl dX1_awaitsCertificate_27 (Nat.le_of_ble_eq_true rfl) (Nat.le_of_ble_eq_true rfl) () (by grind) (fun H h => h)
      · refine j_iconst B (v := 1) dX1_awaitsCertificate_22 (by decide) ?_
        refine j_goto B 27 dX1_awaitsCertificate_23 (by decide) ?_
        exact j_iret B hr rfl dX1_awaitsCertificate_27 (Nat.le_of_ble_eq_true rfl) (Nat.le_of_ble_eq_true rfl) () (by grind) (fun H h => h)
  · obtain rfl : r1 = 0 := by rw [hp2]; exact if_neg h3
    refine j_if_eq B 26 dX1_awaitsCertificate_4 (by decide) (fun h7 => ?_) (fun h7 => (absurd (by decide) h7))
    refine j_iconst B (v := 0) dX1_awaitsCertificate_26 (by decide) ?_
    exact j_iret B hr rfl dX1_awaitsCertificate_27 (Nat.le_of_ble_eq_true rfl) (Nat.le_of_ble_eq_true rfl) () (by grind) (fun H h => h)
set_option maxHeartbeats 4000000 in
set_option maxRecDepth 100000 in
/-- handOver -/
theorem c_X2_handOver (l : Launch) (D : va_G) (cD cC cI cZ cL : ClassId) (A : Nat → Prop) (σ : pgSt) (n : Nat) (ad : Nat → Nat) (j : Nat) (hj : j < n) (to : Int32) : Met l yX2_handOver (.code yX2_handOver cX2_handOver 3 none :: pgWd) ({ frames := 0, cells := 0, slots := 0, locals := 0 } : Room) (pgPc D (pgTys cD cC cI cZ cL) A (pgR D cD cC A σ n ad) [.ref (ad 0), .ref (ad (13 + j)), .int to]) (va_Qv (fun (_ : Unit) => True) (fun _ t9 => pgR D cD cC A (pgHo σ j to) n ad t9.heap) A) 0 0 A := by
  refine pg_enter (own := RX2) (by decide) rfl (Nat.le_of_ble_eq_true rfl) (fun p e s m below meth cc9 B hr hnm => ?_)
  refine j_fact (fun H h => pgR.inA h) (fun hIn => ?_)
  refine j_aload_n B dX2_handOver_0 1 rfl rfl ?_
  refine j_iload_n B dX2_handOver_1 2 rfl rfl ?_
  refine j_put B (Wd' := pgR D cD cC A (pgU σ 2 j to) n ad) pgX1 tyX1 tyX1_ok nmX1 rfl (fun H h => pgR.dk h hj) 2 (by decide) q_210 rfl rfl rfl rfl rfl (Nat.le_of_ble_eq_true rfl) dX2_handOver_2 (hIn (13 + j) (by omega)) (fun H H1 h hc hz ho => pgR.putD h hj (by decide) pgDs2 hc ho) ?_
  refine j_aload_n B dX2_handOver_5 1 rfl rfl ?_
  refine j_iload_n B dX2_handOver_6 2 rfl rfl ?_
  refine j_put B (Wd' := pgR D cD cC A (pgU (pgU σ 2 j to) 14 j to) n ad) pgX1 tyX1 tyX1_ok nmX1 rfl (fun H h => pgR.dk h hj) 3 (by decide) q_211 rfl rfl rfl rfl rfl (Nat.le_of_ble_eq_true rfl) dX2_handOver_7 (hIn (13 + j) (by omega)) (fun H H1 h hc hz ho => pgR.putD h hj (by decide) pgDs3 hc ho) ?_
  refine j_aload_n B dX2_handOver_10 0 rfl rfl ?_
  refine j_dup B dX2_handOver_11 rfl ?_
  refine j_get B (v := .int (σ 13 3)) pgX2 rfl (fun H h => pgR.x h) 5 (by decide) q_50 rfl rfl dX2_handOver_12 ?_
  refine j_iconst B (v := 1) dX2_handOver_15 (by decide) ?_
  refine j_iadd B dX2_handOver_16 ?_
  refine j_put B (Wd' := pgR D cD cC A (pgU (pgU (pgU σ 2 j to) 14 j to) 13 3 ((σ 13 3) + 1)) n ad) pgX2 tyX2 tyX2_ok nmX2 rfl (fun H h => pgR.x h) 5 (by decide) q_50 rfl rfl rfl rfl rfl (Nat.le_of_ble_eq_true rfl) dX2_handOver_17 (hIn 0 (by omega)) (fun H H1 h hc hz ho => pgR.putX h pgXs5 hc ho) ?_
  exact j_vret B hr dX2_handOver_20 (Nat.le_of_ble_eq_true rfl) (Nat.le_of_ble_eq_true rfl) () trivial (fun H h => h)
set_option maxHeartbeats 4000000 in
set_option maxRecDepth 100000 in
/-- requireKeeper -/
theorem c_X2_requireKeeper (l : Launch) (hl : l.stackTraces = false) (D : va_G) (cD cC cI cZ cL : ClassId) (A : Nat → Prop) (σ : pgSt) (n : Nat) (ad : Nat → Nat) (k0 : Int32) : vx_Met l yX2_requireKeeper (.code yX2_requireKeeper cX2_requireKeeper 1 none :: pgWd) ({ frames := 6, cells := 1, slots := 6, locals := 82 } : Room) (pgPc D (pgTys cD cC cI cZ cL) A (pgR D cD cC A σ n ad) [.int k0]) (va_Qv (fun (_ : Unit) => pgIsK k0) (fun _ t9 => pgR D cD cC A σ n ad t9.heap) A) (pgX A (fun k => k = 1 ∧ ¬ pgIsK k0) (pgR D cD cC A σ n ad)) 1 6 A := by
  refine pg_enterX (own := RX2) (by decide) rfl (Nat.le_of_ble_eq_true rfl) (fun p e s m below meth cc9 B hr hnm ht => ?_)
  refine j_iload_n B dX2_requireKeeper_0 0 rfl rfl ?_
  refine j_if_lt B 10 dX2_requireKeeper_1 (by decide) (fun h1 => ?_) (fun h1 => ?_)
  · exact j_throw (k := 1) pgTI pgTI2 pgTI3 rfl q_100 q_7 rfl B hl ht (is := 191) (text := "there is no such keeper") (by decide) dX2_requireKeeper_10 dX2_requireKeeper_13 dX2_requireKeeper_14 dX2_requireKeeper_16 dX2_requireKeeper_19 (Nat.le_of_ble_eq_true rfl) (Nat.le_of_ble_eq_true rfl) (Nat.le_of_ble_eq_true rfl) (Nat.le_of_ble_eq_true rfl) (Nat.le_of_ble_eq_true rfl) (Nat.le_of_ble_eq_true rfl) (by grind) (fun H H1 h hq => pgR.more h hq)
  · refine j_iload_n B dX2_requireKeeper_4 0 rfl rfl ?_
    refine j_bipush B (v := 8) dX2_requireKeeper_5 (by decide) ?_
    refine j_icmp_lt B 20 dX2_requireKeeper_7 (by decide) (fun h2 => ?_) (fun h2 => ?_)
    · exact j_x (j_vret B hr dX2_requireKeeper_20 (Nat.le_of_ble_eq_true rfl) (Nat.le_of_ble_eq_true rfl) () (by grind) (fun H h => h))
    · exact j_throw (k := 1) pgTI pgTI2 pgTI3 rfl q_100 q_7 rfl B hl ht (is := 191) (text := "there is no such keeper") (by decide) dX2_requireKeeper_10 dX2_requireKeeper_13 dX2_requireKeeper_14 dX2_requireKeeper_16 dX2_requireKeeper_19 (Nat.le_of_ble_eq_true rfl) (Nat.le_of_ble_eq_true rfl) (Nat.le_of_ble_eq_true rfl) (Nat.le_of_ble_eq_true rfl) (Nat.le_of_ble_eq_true rfl) (Nat.le_of_ble_eq_true rfl) (by grind) (fun H H1 h hq => pgR.more h hq)
set_option maxHeartbeats 4000000 in
set_option maxRecDepth 100000 in
/-- requireLoose -/
theorem c_X2_requireLoose (l : Launch) (hl : l.stackTraces = false) (D : va_G) (cD cC cI cZ cL : ClassId) (A : Nat → Prop) (σ : pgSt) (n : Nat) (ad : Nat → Nat) (j : Nat) (hj : j < n) (hcr : pgCr n σ) : vx_Met l yX2_requireLoose (.code yX2_requireLoose cX2_requireLoose 1 none :: pgWd) ({ frames := 6, cells := 1, slots := 6, locals := 82 } : Room) (pgPc D (pgTys cD cC cI cZ cL) A (pgR D cD cC A σ n ad) [.ref (ad (13 + j))]) (va_Qv (fun (_ : Unit) => pgLoose σ j) (fun _ t9 => pgR D cD cC A σ n ad t9.heap) A) (pgX A (fun k => k = 3 ∧ ¬ pgLoose σ j) (pgR D cD cC A σ n ad)) 1 6 A := by
  refine pg_enterX (own := RX2) (by decide) rfl (Nat.le_of_ble_eq_true rfl) (fun p e s m below meth cc9 B hr hnm ht => ?_)
  refine j_aload_n B dX2_requireLoose_0 0 rfl rfl ?_
  refine j_get B (v := .int (σ 5 j)) pgX1 rfl (fun H h => pgR.dk h hj) 9 (by decide) q_222 rfl rfl dX2_requireLoose_1 ?_
  refine j_if_ne B 22 dX2_requireLoose_4 (by decide) (fun h1 => ?_) (fun h1 => ?_)
  · exact j_throw (k := 3) pgTS pgTS2 pgTS3 rfl q_185 q_9 rfl B hl ht (is := 193) (text := "the disk is missing, offered or in a crate") (by decide) dX2_requireLoose_22 dX2_requireLoose_25 dX2_requireLoose_26 dX2_requireLoose_28 dX2_requireLoose_31 (Nat.le_of_ble_eq_true rfl) (Nat.le_of_ble_eq_true rfl) (Nat.le_of_ble_eq_true rfl) (Nat.le_of_ble_eq_true rfl) (Nat.le_of_ble_eq_true rfl) (Nat.le_of_ble_eq_true rfl) (by grind) (fun H H1 h hq => pgR.more h hq)
  · refine j_aload_n B dX2_requireLoose_7 0 rfl rfl ?_
    refine j_get B (v := .int (σ 6 j)) pgX1 rfl (fun H h => pgR.dk h hj) 5 (by decide) q_215 rfl rfl dX2_requireLoose_8 ?_
    refine j_iconst B (v := (-1)) dX2_requireLoose_11 (by decide) ?_
    refine j_icmp_ne B 22 dX2_requireLoose_12 (by decide) (fun h2 => ?_) (fun h2 => ?_)
    · exact j_throw (k := 3) pgTS pgTS2 pgTS3 rfl q_185 q_9 rfl B hl ht (is := 193) (text := "the disk is missing, offered or in a crate") (by decide) dX2_requireLoose_22 dX2_requireLoose_25 dX2_requireLoose_26 dX2_requireLoose_28 dX2_requireLoose_31 (Nat.le_of_ble_eq_true rfl) (Nat.le_of_ble_eq_true rfl) (Nat.le_of_ble_eq_true rfl) (Nat.le_of_ble_eq_true rfl) (Nat.le_of_ble_eq_true rfl) (Nat.le_of_ble_eq_true rfl) (by grind) (fun H H1 h hq => pgR.more h hq)
    · refine j_aload_n B dX2_requireLoose_15 0 rfl rfl ?_
      rcases hcr j hj with e5 | ⟨c3, hc4, e5⟩
      · refine j_get B (v := .null) pgX1 rfl (fun H h => pgR.dk h hj) 4 (by decide) q_213 rfl (congrArg some (pgCv_null e5)) dX2_requireLoose_16 ?_
        refine j_ifnullN B 32 dX2_requireLoose_19 (by decide) ?_
        exact j_x (j_vret B hr dX2_requireLoose_32 (Nat.le_of_ble_eq_true rfl) (Nat.le_of_ble_eq_true rfl) () (by grind) (fun H h => h))
      · have xe5 := pgCx hc4 e5
        refine j_get B (v := .ref (ad (3 + c3))) pgX1 rfl (fun H h => pgR.dk h hj) 4 (by decide) q_213 rfl (congrArg some (pgCv_ref hc4 e5)) dX2_requireLoose_16 ?_
        refine j_ifnull B dX2_requireLoose_19 ?_
        exact j_throw (k := 3) pgTS pgTS2 pgTS3 rfl q_185 q_9 rfl B hl ht (is := 193) (text := "the disk is missing, offered or in a crate") (by decide) dX2_requireLoose_22 dX2_requireLoose_25 dX2_requireLoose_26 dX2_requireLoose_28 dX2_requireLoose_31 (Nat.le_of_ble_eq_true rfl) (Nat.le_of_ble_eq_true rfl) (Nat.le_of_ble_eq_true rfl) (Nat.le_of_ble_eq_true rfl) (Nat.le_of_ble_eq_true rfl) (Nat.le_of_ble_eq_true rfl) (by grind) (fun H H1 h hq => pgR.more h hq)
set_option maxHeartbeats 4000000 in
set_option maxRecDepth 100000 in
/-- requireWithinReach -/
theorem c_X2_requireWithinReach (l : Launch) (hl : l.stackTraces = false) (D : va_G) (cD cC cI cZ cL : ClassId) (A : Nat → Prop) (σ : pgSt) (n : Nat) (ad : Nat → Nat) (j : Nat) (hj : j < n) (hcr : pgCr n σ) : vx_Met l yX2_requireWithinReach (.code yX2_requireWithinReach cX2_requireWithinReach 1 none :: pgWd) ({ frames := 6, cells := 1, slots := 6, locals := 82 } : Room) (pgPc D (pgTys cD cC cI cZ cL) A (pgR D cD cC A σ n ad) [.ref (ad (13 + j))]) (va_Qv (fun (_ : Unit) => pgReach σ j) (fun _ t9 => pgR D cD cC A σ n ad t9.heap) A) (pgX A (fun k => k = 3 ∧ ¬ pgReach σ j) (pgR D cD cC A σ n ad)) 1 6 A := by
  refine pg_enterX (own := RX2) (by decide) rfl (Nat.le_of_ble_eq_true rfl) (fun p e s m below meth cc9 B hr hnm ht => ?_)
  refine j_aload_n B dX2_requireWithinReach_0 0 rfl rfl ?_
  refine j_get B (v := .int (σ 5 j)) pgX1 rfl (fun H h => pgR.dk h hj) 9 (by decide) q_222 rfl rfl dX2_requireWithinReach_1 ?_
  refine j_if_ne B 22 dX2_requireWithinReach_4 (by decide) (fun h1 => ?_) (fun h1 => ?_)
  · exact j_throw (k := 3) pgTS pgTS2 pgTS3 rfl q_185 q_9 rfl B hl ht (is := 198) (text := "the disk is missing, offered or in a sealed crate") (by decide) dX2_requireWithinReach_22 dX2_requireWithinReach_25 dX2_requireWithinReach_26 dX2_requireWithinReach_28 dX2_requireWithinReach_31 (Nat.le_of_ble_eq_true rfl) (Nat.le_of_ble_eq_true rfl) (Nat.le_of_ble_eq_true rfl) (Nat.le_of_ble_eq_true rfl) (Nat.le_of_ble_eq_true rfl) (Nat.le_of_ble_eq_true rfl) (by grind) (fun H H1 h hq => pgR.more h hq)
  · refine j_aload_n B dX2_requireWithinReach_7 0 rfl rfl ?_
    refine j_get B (v := .int (σ 6 j)) pgX1 rfl (fun H h => pgR.dk h hj) 5 (by decide) q_215 rfl rfl dX2_requireWithinReach_8 ?_
    refine j_iconst B (v := (-1)) dX2_requireWithinReach_11 (by decide) ?_
    refine j_icmp_ne B 22 dX2_requireWithinReach_12 (by decide) (fun h2 => ?_) (fun h2 => ?_)
    · exact j_throw (k := 3) pgTS pgTS2 pgTS3 rfl q_185 q_9 rfl B hl ht (is := 198) (text := "the disk is missing, offered or in a sealed crate") (by decide) dX2_requireWithinReach_22 dX2_requireWithinReach_25 dX2_requireWithinReach_26 dX2_requireWithinReach_28 dX2_requireWithinReach_31 (Nat.le_of_ble_eq_true rfl) (Nat.le_of_ble_eq_true rfl) (Nat.le_of_ble_eq_true rfl) (Nat.le_of_ble_eq_true rfl) (Nat.le_of_ble_eq_true rfl) (Nat.le_of_ble_eq_true rfl) (by grind) (fun H H1 h hq => pgR.more h hq)
    · refine j_aload_n B dX2_requireWithinReach_15 0 rfl rfl ?_
      refine j_cVi B (S := Unit) 0 [] (WdC' := fun _ => pgR D cD cC A σ n ad) (fun _ => pgR D cD cC A σ n ad) (c_X1_isSealedIn l D cD cC cI cZ cL A σ n ad j hj hcr) rfl (fun H h => pgR.dk h hj) q_356 q_357 q_358 q_10 q_359 hdX1_isSealedIn rfl ⟨Nat.le_of_ble_eq_true rfl, Nat.le_of_ble_eq_true rfl⟩ (Nat.le_of_ble_eq_true rfl) dX2_requireWithinReach_16 rfl ⟨Nat.le_of_ble_eq_true rfl, Nat.le_of_ble_eq_true rfl⟩ (fun _ h => h) (fun _ _ _ _ h => h) (fun _ h => h) (fun _ _ _ _ h _ _ => h) (fun r3 _ hp4 => ?_)
      by_cases h5 : pgShut σ j
      · obtain rfl : r3 = 1 := by rw [hp4]; exact if_pos h5
        refine j_if_eq B 32 dX2_requireWithinReach_19 (by decide) (fun h6 => (absurd h6 (by decide))) (fun h6 => ?_)
        exact j_throw (k := 3) pgTS pgTS2 pgTS3 rfl q_185 q_9 rfl B hl ht (is := 198) (text := "the disk is missing, offered or in a sealed crate") (by decide) dX2_requireWithinReach_22 dX2_requireWithinReach_25 dX2_requireWithinReach_26 dX2_requireWithinReach_28 dX2_requireWithinReach_31 (Nat.le_of_ble_eq_true rfl) (Nat.le_of_ble_eq_true rfl) (Nat.le_of_ble_eq_true rfl) (Nat.le_of_ble_eq_true rfl) (Nat.le_of_ble_eq_true rfl) (Nat.le_of_ble_eq_true rfl) (by grind) (fun H H1 h hq => pgR.more h hq)
      · obtain rfl : r3 = 0 := by rw [hp4]; exact if_neg h5
        refine j_if_eq B 32 dX2_requireWithinReach_19 (by decide) (fun h7 => ?_) (fun h7 => (absurd (by decide) h7))
        exact j_x (j_vret B hr dX2_requireWithinReach_32 (Nat.le_of_ble_eq_true rfl) (Nat.le_of_ble_eq_true rfl) () (by grind) (fun H h => h))
set_option maxHeartbeats 4000000 in
set_option maxRecDepth 100000 in
/-- requireWitnessIsNotKeeper -/
theorem c_X2_requireWitnessIsNotKeeper (l : Launch) (hl : l.stackTraces = false) (D : va_G) (cD cC cI cZ cL : ClassId) (A : Nat → Prop) (σ : pgSt) (n : Nat) (ad : Nat → Nat) (j : Nat) (hj : j < n) (w : Int32) : vx_Met l yX2_requireWitnessIsNotKeeper (.code yX2_requireWitnessIsNotKeeper cX2_requireWitnessIsNotKeeper 2 none :: pgWd) ({ frames := 6, cells := 1, slots := 6, locals := 82 } : Room) (pgPc D (pgTys cD cC cI cZ cL) A (pgR D cD cC A σ n ad) [.ref (ad (13 + j)), .int w]) (va_Qv (fun (_ : Unit) => ¬ w = σ 2 j) (fun _ t9 => pgR D cD cC A σ n ad t9.heap) A) (pgX A (fun k => k = 2 ∧ w = σ 2 j) (pgR D cD cC A σ n ad)) 1 6 A := by
  refine pg_enterX (own := RX2) (by decide) rfl (Nat.le_of_ble_eq_true rfl) (fun p e s m below meth cc9 B hr hnm ht => ?_)
  refine j_iload_n B dX2_requireWitnessIsNotKeeper_0 1 rfl rfl ?_
  refine j_aload_n B dX2_requireWitnessIsNotKeeper_1 0 rfl rfl ?_
  refine j_get B (v := .int (σ 2 j)) pgX1 rfl (fun H h => pgR.dk h hj) 2 (by decide) q_210 rfl rfl dX2_requireWitnessIsNotKeeper_2 ?_
  refine j_icmp_ne B 18 dX2_requireWitnessIsNotKeeper_5 (by decide) (fun h1 => ?_) (fun h1 => ?_)
  · exact j_x (j_vret B hr dX2_requireWitnessIsNotKeeper_18 (Nat.le_of_ble_eq_true rfl) (Nat.le_of_ble_eq_true rfl) () (by grind) (fun H h => h))
  · exact j_throw (k := 2) pgTA pgTA2 pgTA3 rfl q_169 q_8 rfl B hl ht (is := 200) (text := "the witness is the keeper of the disk") (by decide) dX2_requireWitnessIsNotKeeper_8 dX2_requireWitnessIsNotKeeper_11 dX2_requireWitnessIsNotKeeper_12 dX2_requireWitnessIsNotKeeper_14 dX2_requireWitnessIsNotKeeper_17 (Nat.le_of_ble_eq_true rfl) (Nat.le_of_ble_eq_true rfl) (Nat.le_of_ble_eq_true rfl) (Nat.le_of_ble_eq_true rfl) (Nat.le_of_ble_eq_true rfl) (Nat.le_of_ble_eq_true rfl) (by grind) (fun H H1 h hq => pgR.more h hq)
end
section
theorem pgBd_n {n : Nat} {ad : Nat → Nat} {i : Nat} (h : pgBd n ad i = none) : ¬ i < n := by
  intro q
  simp [pgBd, q] at h
theorem pgBd_s {n : Nat} {ad : Nat → Nat} {i y : Nat} (h : pgBd n ad i = some y) : i < n ∧ y = ad (13 + i) := by
  by_cases q : i < n
  · simp [pgBd, q] at h
    exact ⟨q, h.symm⟩
  · simp [pgBd, q] at h
theorem pgBd_nI {n : Nat} {ad : Nat → Nat} {i : Nat} (hi : i < 60) (h : pgBd n ad (ix (nI i)) = none) : ¬ i < n := by
  rw [show ix (nI i) = i from nI_clamp (by omega)] at h
  exact pgBd_n h
theorem pgBd_sI {n : Nat} {ad : Nat → Nat} {i y : Nat} (hi : i < 60) (h : pgBd n ad (ix (nI i)) = some y) : i < n ∧ y = ad (13 + i) := by
  rw [show ix (nI i) = i from nI_clamp (by omega)] at h
  exact pgBd_s h
theorem pgIsD_iff {n : Nat} {σ : pgSt} {d : Int32} (hI : pgI n σ) : pgIsD σ d ↔ ¬ d < 0 ∧ ix d < n := by
  constructor
  · intro h
    exact ⟨fun h2 => Int32.lt_irrefl (Int32.lt_of_lt_of_le h2 h.1), (h.at hI).1⟩
  · intro ⟨h1, h2⟩
    obtain ⟨j, hj, rfl⟩ := nI_of h1
    rw [show ix (nI j) = j from nI_clamp hj] at h2
    refine ⟨Int32.not_lt.mp h1, ?_⟩
    rw [hI.2.1]
    exact (nI_ltI hj (by have := hI.1; omega)).mpr h2
theorem pgIsD_60 {n : Nat} {σ : pgSt} {d : Int32} (hI : pgI n σ) (h : ¬ d < 60) : ¬ pgIsD σ d := by
  intro q
  obtain ⟨h1, h2⟩ := q.at hI
  rw [h2] at h
  exact h ((nI_ltI (a := ix d) (b := 60) (by have := hI.1; omega) (by omega)).mpr (by have := hI.1; omega))
theorem pg_in60 {d : Int32} (h0 : ¬ d < 0) (h : d < 60) : vp_in d 60 := pg_in0 h0 h (by omega)
theorem pg_in10 {d : Int32} (h0 : ¬ d < 0) (h : d < 10) : vp_in d 10 := pg_in0 h0 h (by omega)
theorem pg_eqN {i N : Nat} (hi : i ≤ N) (hN : N < 2 ^ 31) (h : nI N ≤ nI i) : N = i := by
  have := (nI_leI hN (by omega)).mp h
  omega
theorem pg_ltN {i N : Nat} (hN : N < 2 ^ 31) (hi : i ≤ N) (h : ¬ nI N ≤ nI i) : i < N := by
  rcases Nat.lt_or_ge i N with q | q
  · exact q
  · exact absurd (nI_le q (by omega)) h
theorem pgN_t {P : Nat → Bool} {i : Nat} (h : P i = true) : pgN P (i + 1) = pgN P i + 1 := by
  show pgN P i + _ = _
  rw [if_pos h]
theorem pgN_f {P : Nat → Bool} {i : Nat} (h : ¬ P i = true) : pgN P (i + 1) = pgN P i := by
  show pgN P i + _ = _
  rw [if_neg h]
  rfl
theorem pgN_t2 {P : Nat → Bool} {i : Nat} {x : Int32} (hx : x = nI (pgN P i)) (h : P i = true) : x + 1 = nI (pgN P (i + 1)) := by
  rw [hx, pgN_t h]
  exact nI_1 _
theorem pgN_f2 {P : Nat → Bool} {i : Nat} {x : Int32} (hx : x = nI (pgN P i)) (h : ¬ P i = true) : x = nI (pgN P (i + 1)) := by
  rw [hx, pgN_f h]
theorem pgN_60 {n : Nat} {Q : Nat → Prop} (dq : DecidablePred Q) (hn : n ≤ 60) : pgN (fun j => decide (j < n ∧ Q j)) 60 = pgN (fun j => decide (Q j)) n := by
  obtain ⟨k, hk⟩ : ∃ k, 60 = n + k := ⟨60 - n, by omega⟩
  rw [hk, pgN_pad (fun j hj => decide_eq_false (fun h => by have := h.1; omega)) k]
  exact pgN_congr (fun j hj => by simp [hj])
theorem j_loop {p : Program} {l : Launch} {e : Env} {R : Room} {s : State} {m : MethodId} {args : Array Value} {below : List Frame} {meth : Method} {c : Code} {nL : Nat} {A : Nat → Prop} {cells slots : Nat} {Q : State → Prop} {pc : Nat} {st : List Value} {X : Type} {N : Nat} (inv : Nat → X → Prop) (WdX : Nat → X → Heap → Prop) (LX : Nat → X → List (Nat × Value)) (step : ∀ (i : Nat) (x : X), i ≤ N → inv i x → (i < N → ∀ x2 : X, inv (i + 1) x2 → pgJ p l e R s m args below meth c nL A (WdX (i + 1) x2) cells slots Q pc (LX (i + 1) x2) st) → pgJ p l e R s m args below meth c nL A (WdX i x) cells slots Q pc (LX i x) st) : ∀ (i : Nat) (x : X), i ≤ N → inv i x → pgJ p l e R s m args below meth c nL A (WdX i x) cells slots Q pc (LX i x) st := by
  have key : ∀ (f i : Nat) (x : X), i ≤ N → N ≤ i + f → inv i x → pgJ p l e R s m args below meth c nL A (WdX i x) cells slots Q pc (LX i x) st := by
    intro f
    induction f with
    | zero =>
      intro i x h1 h2 h3
      exact step i x h1 h3 (fun h => by omega)
    | succ f ih =>
      intro i x h1 h2 h3
      exact step i x h1 h3 (fun h x2 hx2 => ih (i + 1) x2 (by omega) (by omega) hx2)
  exact fun i x h1 h3 => key N i x h1 (by omega) h3
set_option maxHeartbeats 4000000 in
set_option maxRecDepth 100000 in
/-- findDisk -/
theorem c_X2_findDisk (l : Launch) (hl : l.stackTraces = false) (D : va_G) (cD cC cI cZ cL : ClassId) (A : Nat → Prop) (σ : pgSt) (n : Nat) (ad : Nat → Nat) (hI : pgI n σ) (d : Int32) : vx_Met l yX2_findDisk (.code yX2_findDisk cX2_findDisk 3 (some (.object "Shredroll$Disk")) :: pgWd) ({ frames := 6, cells := 1, slots := 6, locals := 82 } : Room) (pgPc D (pgTys cD cC cI cZ cL) A (pgR D cD cC A σ n ad) [.ref (ad 0), .int d]) (va_Qr (fun (_ : Unit) => True) (fun _ a t9 => (a = ad (13 + ix d) ∧ pgIsD σ d) ∧ pgR D cD cC A σ n ad t9.heap) A) (pgX A (fun k => k = 1 ∧ ¬ pgIsD σ d) (pgR D cD cC A σ n ad)) 1 6 A := by
  refine pg_enterX (own := RX2) (by decide) rfl (Nat.le_of_ble_eq_true rfl) (fun p e s m below meth cc9 B hr hnm ht => ?_)
  refine j_iload_n B dX2_findDisk_0 1 rfl rfl ?_
  refine j_if_lt B 13 dX2_findDisk_1 (by decide) (fun h1 => ?_) (fun h1 => ?_)
  · refine j_null B dX2_findDisk_13 ?_
    refine j_goto B 23 dX2_findDisk_14 (by decide) ?_
    refine j_astore_nN B (L' := [(2, .null), (0, .ref (ad 0)), (1, .int d)]) dX2_findDisk_23 rfl (by decide) rfl ?_
    refine j_aload_nN B dX2_findDisk_24 0 rfl rfl ?_
    refine j_ifnonnullN B dX2_findDisk_25 ?_
    exact j_throw (k := 1) pgTI pgTI2 pgTI3 rfl q_100 q_7 rfl B hl ht (is := 186) (text := "there is no such disk") (by decide) dX2_findDisk_28 dX2_findDisk_31 dX2_findDisk_32 dX2_findDisk_34 dX2_findDisk_37 (Nat.le_of_ble_eq_true rfl) (Nat.le_of_ble_eq_true rfl) (Nat.le_of_ble_eq_true rfl) (Nat.le_of_ble_eq_true rfl) (Nat.le_of_ble_eq_true rfl) (Nat.le_of_ble_eq_true rfl) ⟨rfl, fun q => by have q1 := (pgIsD_iff hI).mp q; have q2 := fun z => pgIsD_60 (d := d) hI z q; grind⟩ (fun H H1 h hq => pgR.more h hq)
  · refine j_iload_n B dX2_findDisk_4 1 rfl rfl ?_
    refine j_aload_n B dX2_findDisk_5 0 rfl rfl ?_
    refine j_get B (v := .ref (ad 1)) pgX2 rfl (fun H h => pgR.x h) 0 (by decide) q_45 rfl rfl dX2_findDisk_6 ?_
    refine j_alen B (fun H h => pgR.bd h) 0 rfl (v := 60) rfl dX2_findDisk_9 ?_
    refine j_icmp_lt B 17 dX2_findDisk_10 (by decide) (fun h2 => ?_) (fun h2 => ?_)
    · refine j_aload_n B dX2_findDisk_17 0 rfl rfl ?_
      refine j_get B (v := .ref (ad 1)) pgX2 rfl (fun H h => pgR.x h) 0 (by decide) q_45 rfl rfl dX2_findDisk_18 ?_
      refine j_iload_n B dX2_findDisk_21 1 rfl rfl ?_
      refine j_aald B (fun H h => pgR.bd h) 0 rfl (pg_in60 h1 h2) dX2_findDisk_22 (fun h3 => ?_) (fun y4 h3 => ?_)
      · have nh3 := pgBd_n h3
        refine j_astore_nN B (L' := [(2, .null), (0, .ref (ad 0)), (1, .int d)]) dX2_findDisk_23 rfl (by decide) rfl ?_
        refine j_aload_nN B dX2_findDisk_24 0 rfl rfl ?_
        refine j_ifnonnullN B dX2_findDisk_25 ?_
        exact j_throw (k := 1) pgTI pgTI2 pgTI3 rfl q_100 q_7 rfl B hl ht (is := 186) (text := "there is no such disk") (by decide) dX2_findDisk_28 dX2_findDisk_31 dX2_findDisk_32 dX2_findDisk_34 dX2_findDisk_37 (Nat.le_of_ble_eq_true rfl) (Nat.le_of_ble_eq_true rfl) (Nat.le_of_ble_eq_true rfl) (Nat.le_of_ble_eq_true rfl) (Nat.le_of_ble_eq_true rfl) (Nat.le_of_ble_eq_true rfl) ⟨rfl, fun q => by have q1 := (pgIsD_iff hI).mp q; have q2 := fun z => pgIsD_60 (d := d) hI z q; grind⟩ (fun H H1 h hq => pgR.more h hq)
      · obtain ⟨jh3, rfl⟩ := pgBd_s h3
        refine j_astore_n B (L' := [(2, .ref (ad (13 + ix d))), (0, .ref (ad 0)), (1, .int d)]) dX2_findDisk_23 rfl (by decide) rfl ?_
        refine j_aload_n B dX2_findDisk_24 0 rfl rfl ?_
        refine j_ifnonnull B 38 dX2_findDisk_25 (by decide) ?_
        refine j_aload_n B dX2_findDisk_38 0 rfl rfl ?_
        exact j_x (j_aret B hr dX2_findDisk_39 (Nat.le_of_ble_eq_true rfl) (Nat.le_of_ble_eq_true rfl) ⟨rfl, (pgIsD_iff hI).mpr (by grind)⟩ (fun H h => h))
    · refine j_null B dX2_findDisk_13 ?_
      refine j_goto B 23 dX2_findDisk_14 (by decide) ?_
      refine j_astore_nN B (L' := [(2, .null), (0, .ref (ad 0)), (1, .int d)]) dX2_findDisk_23 rfl (by decide) rfl ?_
      refine j_aload_nN B dX2_findDisk_24 0 rfl rfl ?_
      refine j_ifnonnullN B dX2_findDisk_25 ?_
      exact j_throw (k := 1) pgTI pgTI2 pgTI3 rfl q_100 q_7 rfl B hl ht (is := 186) (text := "there is no such disk") (by decide) dX2_findDisk_28 dX2_findDisk_31 dX2_findDisk_32 dX2_findDisk_34 dX2_findDisk_37 (Nat.le_of_ble_eq_true rfl) (Nat.le_of_ble_eq_true rfl) (Nat.le_of_ble_eq_true rfl) (Nat.le_of_ble_eq_true rfl) (Nat.le_of_ble_eq_true rfl) (Nat.le_of_ble_eq_true rfl) ⟨rfl, fun q => by have q1 := (pgIsD_iff hI).mp q; have q2 := fun z => pgIsD_60 (d := d) hI z q; grind⟩ (fun H H1 h hq => pgR.more h hq)
set_option maxHeartbeats 4000000 in
set_option maxRecDepth 100000 in
/-- findCrate -/
theorem c_X2_findCrate (l : Launch) (hl : l.stackTraces = false) (D : va_G) (cD cC cI cZ cL : ClassId) (A : Nat → Prop) (σ : pgSt) (n : Nat) (ad : Nat → Nat) (d : Int32) : vx_Met l yX2_findCrate (.code yX2_findCrate cX2_findCrate 3 (some (.object "Shredroll$Crate")) :: pgWd) ({ frames := 6, cells := 1, slots := 6, locals := 82 } : Room) (pgPc D (pgTys cD cC cI cZ cL) A (pgR D cD cC A σ n ad) [.ref (ad 0), .int d]) (va_Qr (fun (_ : Unit) => True) (fun _ a t9 => (a = ad (3 + ix d) ∧ pgIsC d) ∧ pgR D cD cC A σ n ad t9.heap) A) (pgX A (fun k => k = 1 ∧ ¬ pgIsC d) (pgR D cD cC A σ n ad)) 1 6 A := by
  refine pg_enterX (own := RX2) (by decide) rfl (Nat.le_of_ble_eq_true rfl) (fun p e s m below meth cc9 B hr hnm ht => ?_)
  refine j_iload_n B dX2_findCrate_0 1 rfl rfl ?_
  refine j_if_lt B 13 dX2_findCrate_1 (by decide) (fun h1 => ?_) (fun h1 => ?_)
  · refine j_null B dX2_findCrate_13 ?_
    refine j_goto B 23 dX2_findCrate_14 (by decide) ?_
    refine j_astore_nN B (L' := [(2, .null), (0, .ref (ad 0)), (1, .int d)]) dX2_findCrate_23 rfl (by decide) rfl ?_
    refine j_aload_nN B dX2_findCrate_24 0 rfl rfl ?_
    refine j_ifnonnullN B dX2_findCrate_25 ?_
    exact j_throw (k := 1) pgTI pgTI2 pgTI3 rfl q_100 q_7 rfl B hl ht (is := 189) (text := "there is no such crate") (by decide) dX2_findCrate_28 dX2_findCrate_31 dX2_findCrate_32 dX2_findCrate_34 dX2_findCrate_37 (Nat.le_of_ble_eq_true rfl) (Nat.le_of_ble_eq_true rfl) (Nat.le_of_ble_eq_true rfl) (Nat.le_of_ble_eq_true rfl) (Nat.le_of_ble_eq_true rfl) (Nat.le_of_ble_eq_true rfl) ⟨rfl, fun q => by have q1 := fun z : d < 0 => Int32.lt_irrefl (Int32.lt_of_lt_of_le z q.1); grind⟩ (fun H H1 h hq => pgR.more h hq)
  · refine j_iload_n B dX2_findCrate_4 1 rfl rfl ?_
    refine j_aload_n B dX2_findCrate_5 0 rfl rfl ?_
    refine j_get B (v := .ref (ad 2)) pgX2 rfl (fun H h => pgR.x h) 1 (by decide) q_46 rfl rfl dX2_findCrate_6 ?_
    refine j_alen B (fun H h => pgR.ac h) 1 rfl (v := 10) rfl dX2_findCrate_9 ?_
    refine j_icmp_lt B 17 dX2_findCrate_10 (by decide) (fun h2 => ?_) (fun h2 => ?_)
    · refine j_aload_n B dX2_findCrate_17 0 rfl rfl ?_
      refine j_get B (v := .ref (ad 2)) pgX2 rfl (fun H h => pgR.x h) 1 (by decide) q_46 rfl rfl dX2_findCrate_18 ?_
      refine j_iload_n B dX2_findCrate_21 1 rfl rfl ?_
      refine j_aald B (fun H h => pgR.ac h) 1 rfl (pg_in10 h1 h2) dX2_findCrate_22 (fun h3 => ?_) (fun y4 h3 => ?_)
      · exact absurd h3 (by simp)
      · obtain rfl := Option.some.inj h3
        refine j_astore_n B (L' := [(2, .ref (ad (3 + ix d))), (0, .ref (ad 0)), (1, .int d)]) dX2_findCrate_23 rfl (by decide) rfl ?_
        refine j_aload_n B dX2_findCrate_24 0 rfl rfl ?_
        refine j_ifnonnull B 38 dX2_findCrate_25 (by decide) ?_
        refine j_aload_n B dX2_findCrate_38 0 rfl rfl ?_
        exact j_x (j_aret B hr dX2_findCrate_39 (Nat.le_of_ble_eq_true rfl) (Nat.le_of_ble_eq_true rfl) ⟨rfl, Int32.not_lt.mp h1, h2⟩ (fun H h => h))
    · refine j_null B dX2_findCrate_13 ?_
      refine j_goto B 23 dX2_findCrate_14 (by decide) ?_
      refine j_astore_nN B (L' := [(2, .null), (0, .ref (ad 0)), (1, .int d)]) dX2_findCrate_23 rfl (by decide) rfl ?_
      refine j_aload_nN B dX2_findCrate_24 0 rfl rfl ?_
      refine j_ifnonnullN B dX2_findCrate_25 ?_
      exact j_throw (k := 1) pgTI pgTI2 pgTI3 rfl q_100 q_7 rfl B hl ht (is := 189) (text := "there is no such crate") (by decide) dX2_findCrate_28 dX2_findCrate_31 dX2_findCrate_32 dX2_findCrate_34 dX2_findCrate_37 (Nat.le_of_ble_eq_true rfl) (Nat.le_of_ble_eq_true rfl) (Nat.le_of_ble_eq_true rfl) (Nat.le_of_ble_eq_true rfl) (Nat.le_of_ble_eq_true rfl) (Nat.le_of_ble_eq_true rfl) ⟨rfl, fun q => by have q1 := fun z : d < 0 => Int32.lt_irrefl (Int32.lt_of_lt_of_le z q.1); grind⟩ (fun H H1 h hq => pgR.more h hq)
set_option maxHeartbeats 4000000 in
set_option maxRecDepth 100000 in
/-- countDisksIn -/
theorem c_X2_countDisksIn (l : Launch) (D : va_G) (cD cC cI cZ cL : ClassId) (A : Nat → Prop) (σ : pgSt) (n : Nat) (ad : Nat → Nat) (c : Nat) (hc : c < 10) (hn9 : n ≤ 60) (hcr : pgCr n σ) : Met l yX2_countDisksIn (.code yX2_countDisksIn cX2_countDisksIn 7 (some .int) :: pgWd) ({ frames := 1, cells := 0, slots := 0, locals := 20 } : Room) (pgPc D (pgTys cD cC cI cZ cL) A (pgR D cD cC A σ n ad) [.ref (ad 0), .ref (ad (3 + c))]) (va_Qi (fun (r : Int32) (_ : Unit) => r = pgCnt σ n (nI c)) (fun _ t9 => pgR D cD cC A σ n ad t9.heap) A) 0 0 A := by
  refine pg_enter (own := RX2) (by decide) rfl (Nat.le_of_ble_eq_true rfl) (fun p e s m below meth cc9 B hr hnm => ?_)
  refine j_iconst B (v := 0) dX2_countDisksIn_0 (by decide) ?_
  refine j_istore_n B (L' := [(2, .int 0), (0, .ref (ad 0)), (1, .ref (ad (3 + c)))]) dX2_countDisksIn_1 rfl (by decide) rfl ?_
  refine j_aload_n B dX2_countDisksIn_2 1 rfl rfl ?_
  refine j_get B (v := .ref (ad 1)) pgX2 rfl (fun H h => pgR.x h) 0 (by decide) q_45 rfl rfl dX2_countDisksIn_3 ?_
  refine j_astore_n B (L' := [(3, .ref (ad 1)), (2, .int 0), (0, .ref (ad 0)), (1, .ref (ad (3 + c)))]) dX2_countDisksIn_6 rfl (by decide) rfl ?_
  refine j_aload_n B dX2_countDisksIn_7 0 rfl rfl ?_
  refine j_alen B (fun H h => pgR.bd h) 0 rfl (v := 60) rfl dX2_countDisksIn_8 ?_
  refine j_istore B (L' := [(4, .int 60), (3, .ref (ad 1)), (2, .int 0), (0, .ref (ad 0)), (1, .ref (ad (3 + c)))]) dX2_countDisksIn_9 (by decide) rfl ?_
  refine j_iconst B (v := 0) dX2_countDisksIn_11 (by decide) ?_
  refine j_istore B (L' := [(5, .int 0), (4, .int 60), (3, .ref (ad 1)), (2, .int 0), (0, .ref (ad 0)), (1, .ref (ad (3 + c)))]) dX2_countDisksIn_12 (by decide) rfl ?_
  refine j_locals [0, 1, 2, 3, 5, 4] rfl ?_
  refine j_loop (N := 60) (X := Int32) (fun i x => x = nI (pgN (fun j => decide (j < n ∧ σ 3 j = nI c)) i)) (fun i x => pgR D cD cC A σ n ad) (fun i x => [(5, .int (nI i)), (4, .int 60), (3, .ref (ad 1)), (2, .int x), (1, .ref (ad (3 + c))), (0, .ref (ad 0))]) (fun i x hi hv ih => ?_) 0 0 (by omega) rfl
  refine j_iload B dX2_countDisksIn_14 0 rfl ?_
  refine j_iload B dX2_countDisksIn_16 1 rfl ?_
  refine j_icmp_ge B 53 dX2_countDisksIn_18 (by decide) (fun h1 => ?_) (fun h1 => ?_)
  · obtain rfl := pg_eqN hi (by omega) h1
    refine j_iload_n B dX2_countDisksIn_53 3 rfl rfl ?_
    exact j_iret B hr rfl dX2_countDisksIn_54 (Nat.le_of_ble_eq_true rfl) (Nat.le_of_ble_eq_true rfl) () (hv.trans (congrArg nI (pgN_60 _ hn9))) (fun H h => h)
  · have hlt := pg_ltN (N := 60) (by omega) hi h1
    refine j_aload_n B dX2_countDisksIn_21 2 rfl rfl ?_
    refine j_iload B dX2_countDisksIn_22 0 rfl ?_
    refine j_aald B (fun H h => pgR.bd h) 0 rfl (vp_in_nI hlt (by omega)) dX2_countDisksIn_24 (fun h2 => ?_) (fun y3 h2 => ?_)
    · have nh2 := pgBd_nI hlt h2
      refine j_astoreN B (L' := [(6, .null), (5, .int (nI i)), (4, .int 60), (3, .ref (ad 1)), (2, .int x), (1, .ref (ad (3 + c))), (0, .ref (ad 0))]) dX2_countDisksIn_25 (by decide) rfl ?_
      refine j_aloadN B dX2_countDisksIn_27 0 rfl ?_
      refine j_ifnullN B 47 dX2_countDisksIn_29 (by decide) ?_
      refine j_iinc B (v := nI (i + 1)) (L' := [(5, .int (nI (i + 1))), (6, .null), (4, .int 60), (3, .ref (ad 1)), (2, .int x), (1, .ref (ad (3 + c))), (0, .ref (ad 0))]) dX2_countDisksIn_47 1 rfl (nI_1 i) (by decide) rfl ?_
      refine j_goto B 14 dX2_countDisksIn_50 (by decide) ?_
      refine j_locals [0, 2, 3, 4, 5, 6] rfl ?_
      exact ih hlt _ (pgN_f2 hv (by simp [*]))
    · obtain ⟨jh2, rfl⟩ := pgBd_sI hlt h2
      refine j_astore B (L' := [(6, .ref (ad (13 + i))), (5, .int (nI i)), (4, .int 60), (3, .ref (ad 1)), (2, .int x), (1, .ref (ad (3 + c))), (0, .ref (ad 0))]) dX2_countDisksIn_25 (by decide) rfl ?_
      refine j_aload B dX2_countDisksIn_27 0 rfl ?_
      refine j_ifnull B dX2_countDisksIn_29 ?_
      refine j_aload B dX2_countDisksIn_32 0 rfl ?_
      refine j_cVi B (S := Unit) 0 [] (WdC' := fun _ => pgR D cD cC A σ n ad) (fun _ => pgR D cD cC A σ n ad) (c_X1_crateNumber l D cD cC cI cZ cL A σ n ad i jh2 hcr) rfl (fun H h => pgR.dk h jh2) q_299 q_300 q_301 q_10 q_302 hdX1_crateNumber rfl ⟨Nat.le_of_ble_eq_true rfl, Nat.le_of_ble_eq_true rfl⟩ (Nat.le_of_ble_eq_true rfl) dX2_countDisksIn_34 rfl ⟨Nat.le_of_ble_eq_true rfl, Nat.le_of_ble_eq_true rfl⟩ (fun _ h => h) (fun _ _ _ _ h => h) (fun _ h => h) (fun _ _ _ _ h _ _ => h) (fun r4 _ hp5 => ?_)
      obtain rfl : r4 = σ 3 i := hp5
      refine j_aload_n B dX2_countDisksIn_37 5 rfl rfl ?_
      refine j_get B (v := .int (nI c)) pgX0 rfl (fun H h => pgR.cr h hc) 0 (by decide) q_31 rfl rfl dX2_countDisksIn_38 ?_
      refine j_icmp_ne B 47 dX2_countDisksIn_41 (by decide) (fun h6 => ?_) (fun h6 => ?_)
      · refine j_iinc B (v := nI (i + 1)) (L' := [(5, .int (nI (i + 1))), (6, .ref (ad (13 + i))), (4, .int 60), (3, .ref (ad 1)), (2, .int x), (1, .ref (ad (3 + c))), (0, .ref (ad 0))]) dX2_countDisksIn_47 1 rfl (nI_1 i) (by decide) rfl ?_
        refine j_goto B 14 dX2_countDisksIn_50 (by decide) ?_
        refine j_locals [0, 2, 3, 4, 5, 6] rfl ?_
        exact ih hlt _ (pgN_f2 hv (by simp [*]))
      · refine j_iinc B (v := (x + 1)) (L' := [(2, .int (x + 1)), (6, .ref (ad (13 + i))), (5, .int (nI i)), (4, .int 60), (3, .ref (ad 1)), (1, .ref (ad (3 + c))), (0, .ref (ad 0))]) dX2_countDisksIn_44 4 rfl rfl (by decide) rfl ?_
        refine j_iinc B (v := nI (i + 1)) (L' := [(5, .int (nI (i + 1))), (2, .int (x + 1)), (6, .ref (ad (13 + i))), (4, .int 60), (3, .ref (ad 1)), (1, .ref (ad (3 + c))), (0, .ref (ad 0))]) dX2_countDisksIn_47 2 rfl (nI_1 i) (by decide) rfl ?_
        refine j_goto B 14 dX2_countDisksIn_50 (by decide) ?_
        refine j_locals [0, 3, 4, 1, 5, 6] rfl ?_
        exact ih hlt _ (pgN_t2 hv (by simp [*]))
theorem pgHoN_3 {σ : pgSt} {c to : Int32} {k j : Nat} : pgHoN σ c to k 3 j = σ 3 j := by simp [pgHoN]
theorem pgHoN_cr {n : Nat} {σ : pgSt} {c to : Int32} {i : Nat} (h : pgCr n σ) : pgCr n (pgHoN σ c to i) := fun j hj => by
  rw [pgHoN_3]
  exact h j hj
theorem pgHoN_10 {σ : pgSt} {c to : Int32} {k j : Nat} : pgHoN σ c to k 10 j = σ 10 j := by simp [pgHoN]
theorem pgHoN_0 {σ : pgSt} {c to : Int32} : σ = pgHoN σ c to 0 := by
  funext t j
  simp only [pgHoN, pgCnt, pgN]
  by_cases h : t = 13 ∧ j = 3
  · obtain ⟨rfl, rfl⟩ := h
    simp
    exact (Int32.add_zero _).symm
  · simp [h]
theorem pgHoN_f {σ : pgSt} {c to : Int32} {i : Nat} (h : ¬ σ 3 i = c) : pgHoN σ c to i = pgHoN σ c to (i + 1) := by
  funext t j
  have e : pgCnt σ (i + 1) c = pgCnt σ i c := by
    show nI _ = nI _
    rw [pgN_f (by simp [h])]
  simp only [pgHoN, e]
  by_cases hj : j = i
  · subst hj
    simp [h]
  · have q : (j < i + 1) = (j < i) := by apply propext; omega
    simp only [q]
theorem pgHoN_t {σ : pgSt} {c to : Int32} {i : Nat} (h : σ 3 i = c) : pgHo (pgHoN σ c to i) i to = pgHoN σ c to (i + 1) := by
  have e : pgCnt σ (i + 1) c = pgCnt σ i c + 1 := by
    show nI _ = nI _ + 1
    rw [pgN_t (by simp [h]), nI_1]
  funext t j
  simp only [pgHo, pgU, pgHoN, e]
  by_cases h13 : t = 13 ∧ j = 3
  · obtain ⟨rfl, rfl⟩ := h13
    simp
    rw [Int32.add_assoc]
  · by_cases hj : j = i
    · subst hj
      by_cases h2 : t = 2
      · subst h2; simp [h]
      · by_cases h14 : t = 14
        · subst h14; simp [h]
        · simp [h13, h2, h14]
    · have q : (j < i + 1) = (j < i) := by apply propext; omega
      simp [h13, hj, q]
theorem pgHoM_n {σ : pgSt} {c to : Int32} {i n : Nat} (h : ¬ i < n) : pgHoN σ c to (min i n) = pgHoN σ c to (min (i + 1) n) := by
  rw [Nat.min_eq_right (by omega), Nat.min_eq_right (by omega)]
theorem pgHoM_f {σ : pgSt} {c to : Int32} {i n : Nat} (hi : i < n) (h : ¬ σ 3 i = c) : pgHoN σ c to (min i n) = pgHoN σ c to (min (i + 1) n) := by
  rw [Nat.min_eq_left (by omega), Nat.min_eq_left (by omega)]
  exact pgHoN_f h
theorem pgHoM_t {σ : pgSt} {c to to2 : Int32} {i n : Nat} (hi : i < n) (h : σ 3 i = c) (e : to2 = to) : pgHo (pgHoN σ c to (min i n)) i to2 = pgHoN σ c to (min (i + 1) n) := by
  subst e
  rw [Nat.min_eq_left (by omega), Nat.min_eq_left (by omega)]
  exact pgHoN_t h
set_option maxHeartbeats 4000000 in
set_option maxRecDepth 100000 in
/-- handOverDisksIn -/
theorem c_X2_handOverDisksIn (l : Launch) (D : va_G) (cD cC cI cZ cL : ClassId) (A : Nat → Prop) (σ : pgSt) (n : Nat) (ad : Nat → Nat) (c : Nat) (hc : c < 10) (hn9 : n ≤ 60) (hcr : pgCr n σ) : Met l yX2_handOverDisksIn (.code yX2_handOverDisksIn cX2_handOverDisksIn 6 none :: pgWd) ({ frames := 1, cells := 0, slots := 0, locals := 22 } : Room) (pgPc D (pgTys cD cC cI cZ cL) A (pgR D cD cC A σ n ad) [.ref (ad 0), .ref (ad (3 + c))]) (va_Qv (fun (_ : Unit) => True) (fun _ t9 => pgR D cD cC A (pgHoN σ (nI c) (σ 10 c) n) n ad t9.heap) A) 0 0 A := by
  refine pg_enter (own := RX2) (by decide) rfl (Nat.le_of_ble_eq_true rfl) (fun p e s m below meth cc9 B hr hnm => ?_)
  refine j_fact (fun H h => pgR.inA h) (fun hIn => ?_)
  refine j_aload_n B dX2_handOverDisksIn_0 0 rfl rfl ?_
  refine j_get B (v := .ref (ad 1)) pgX2 rfl (fun H h => pgR.x h) 0 (by decide) q_45 rfl rfl dX2_handOverDisksIn_1 ?_
  refine j_astore_n B (L' := [(2, .ref (ad 1)), (0, .ref (ad 0)), (1, .ref (ad (3 + c)))]) dX2_handOverDisksIn_4 rfl (by decide) rfl ?_
  refine j_aload_n B dX2_handOverDisksIn_5 0 rfl rfl ?_
  refine j_alen B (fun H h => pgR.bd h) 0 rfl (v := 60) rfl dX2_handOverDisksIn_6 ?_
  refine j_istore_n B (L' := [(3, .int 60), (2, .ref (ad 1)), (0, .ref (ad 0)), (1, .ref (ad (3 + c)))]) dX2_handOverDisksIn_7 rfl (by decide) rfl ?_
  refine j_iconst B (v := 0) dX2_handOverDisksIn_8 (by decide) ?_
  refine j_istore B (L' := [(4, .int 0), (3, .int 60), (2, .ref (ad 1)), (0, .ref (ad 0)), (1, .ref (ad (3 + c)))]) dX2_handOverDisksIn_9 (by decide) rfl ?_
  refine j_locals [0, 1, 2, 4, 3] rfl ?_
  refine j_world (Wd' := pgR D cD cC A (pgHoN σ (nI c) (σ 10 c) (min 0 n)) n ad) (fun H h => pgR.eq h (by rw [Nat.zero_min]; exact pgHoN_0)) ?_
  refine j_loop (N := 60) (X := Unit) (fun i x => True) (fun i x => pgR D cD cC A (pgHoN σ (nI c) (σ 10 c) (min i n)) n ad) (fun i x => [(4, .int (nI i)), (3, .int 60), (2, .ref (ad 1)), (1, .ref (ad (3 + c))), (0, .ref (ad 0))]) (fun i x hi hv ih => ?_) 0 () (by omega) trivial
  refine j_iload B dX2_handOverDisksIn_11 0 rfl ?_
  refine j_iload_n B dX2_handOverDisksIn_13 1 rfl rfl ?_
  refine j_icmp_ge B 56 dX2_handOverDisksIn_14 (by decide) (fun h1 => ?_) (fun h1 => ?_)
  · obtain rfl := pg_eqN hi (by omega) h1
    exact j_vret B hr dX2_handOverDisksIn_56 (Nat.le_of_ble_eq_true rfl) (Nat.le_of_ble_eq_true rfl) () trivial (fun H h => pgR.eq h (congrArg _ (Nat.min_eq_right hn9)))
  · have hlt := pg_ltN (N := 60) (by omega) hi h1
    refine j_aload_n B dX2_handOverDisksIn_17 2 rfl rfl ?_
    refine j_iload B dX2_handOverDisksIn_18 0 rfl ?_
    refine j_aald B (fun H h => pgR.bd h) 0 rfl (vp_in_nI hlt (by omega)) dX2_handOverDisksIn_20 (fun h2 => ?_) (fun y3 h2 => ?_)
    · have nh2 := pgBd_nI hlt h2
      refine j_astoreN B (L' := [(5, .null), (4, .int (nI i)), (3, .int 60), (2, .ref (ad 1)), (1, .ref (ad (3 + c))), (0, .ref (ad 0))]) dX2_handOverDisksIn_21 (by decide) rfl ?_
      refine j_aloadN B dX2_handOverDisksIn_23 0 rfl ?_
      refine j_ifnullN B 50 dX2_handOverDisksIn_25 (by decide) ?_
      refine j_iinc B (v := nI (i + 1)) (L' := [(4, .int (nI (i + 1))), (5, .null), (3, .int 60), (2, .ref (ad 1)), (1, .ref (ad (3 + c))), (0, .ref (ad 0))]) dX2_handOverDisksIn_50 1 rfl (nI_1 i) (by decide) rfl ?_
      refine j_goto B 11 dX2_handOverDisksIn_53 (by decide) ?_
      refine j_locals [0, 2, 3, 4, 5] rfl ?_
      exact j_world (fun H h => pgR.eq h (pgHoM_n (by assumption))) (ih hlt () trivial)
    · obtain ⟨jh2, rfl⟩ := pgBd_sI hlt h2
      refine j_astore B (L' := [(5, .ref (ad (13 + i))), (4, .int (nI i)), (3, .int 60), (2, .ref (ad 1)), (1, .ref (ad (3 + c))), (0, .ref (ad 0))]) dX2_handOverDisksIn_21 (by decide) rfl ?_
      refine j_aload B dX2_handOverDisksIn_23 0 rfl ?_
      refine j_ifnull B dX2_handOverDisksIn_25 ?_
      refine j_aload B dX2_handOverDisksIn_28 0 rfl ?_
      refine j_cVi B (S := Unit) 0 [] (WdC' := fun _ => pgR D cD cC A (pgHoN σ (nI c) (σ 10 c) (min i n)) n ad) (fun _ => pgR D cD cC A (pgHoN σ (nI c) (σ 10 c) (min i n)) n ad) (c_X1_crateNumber l D cD cC cI cZ cL A (pgHoN σ (nI c) (σ 10 c) (min i n)) n ad i jh2 (pgHoN_cr hcr)) rfl (fun H h => pgR.dk h jh2) q_299 q_300 q_301 q_10 q_302 hdX1_crateNumber rfl ⟨Nat.le_of_ble_eq_true rfl, Nat.le_of_ble_eq_true rfl⟩ (Nat.le_of_ble_eq_true rfl) dX2_handOverDisksIn_30 rfl ⟨Nat.le_of_ble_eq_true rfl, Nat.le_of_ble_eq_true rfl⟩ (fun _ h => h) (fun _ _ _ _ h => h) (fun _ h => h) (fun _ _ _ _ h _ _ => h) (fun r4 _ hp5 => ?_)
      obtain rfl : r4 = (pgHoN σ (nI c) (σ 10 c) (min i n)) 3 i := hp5
      refine j_aload_n B dX2_handOverDisksIn_33 4 rfl rfl ?_
      refine j_get B (v := .int (nI c)) pgX0 rfl (fun H h => pgR.cr h hc) 0 (by decide) q_31 rfl rfl dX2_handOverDisksIn_34 ?_
      refine j_icmp_ne B 50 dX2_handOverDisksIn_37 (by decide) (fun h6 => ?_) (fun h6 => ?_)
      · rw [pgHoN_3] at h6
        refine j_iinc B (v := nI (i + 1)) (L' := [(4, .int (nI (i + 1))), (5, .ref (ad (13 + i))), (3, .int 60), (2, .ref (ad 1)), (1, .ref (ad (3 + c))), (0, .ref (ad 0))]) dX2_handOverDisksIn_50 1 rfl (nI_1 i) (by decide) rfl ?_
        refine j_goto B 11 dX2_handOverDisksIn_53 (by decide) ?_
        refine j_locals [0, 2, 3, 4, 5] rfl ?_
        exact j_world (fun H h => pgR.eq h (pgHoM_f (by assumption) (by assumption))) (ih hlt () trivial)
      · rw [pgHoN_3] at h6
        refine j_aload_n B dX2_handOverDisksIn_40 5 rfl rfl ?_
        refine j_aload B dX2_handOverDisksIn_41 0 rfl ?_
        refine j_aload_n B dX2_handOverDisksIn_43 4 rfl rfl ?_
        refine j_get B (v := .int ((pgHoN σ (nI c) (σ 10 c) (min i n)) 10 c)) pgX0 rfl (fun H h => pgR.cr h hc) 1 (by decide) q_32 rfl rfl dX2_handOverDisksIn_44 ?_
        refine j_cVv B (S := Unit) 2 [.ref (ad (13 + i)), .int ((pgHoN σ (nI c) (σ 10 c) (min i n)) 10 c)] (WdC' := fun _ => pgR D cD cC A (pgU (pgU (pgU (pgHoN σ (nI c) (σ 10 c) (min i n)) 2 i ((pgHoN σ (nI c) (σ 10 c) (min i n)) 10 c)) 14 i ((pgHoN σ (nI c) (σ 10 c) (min i n)) 10 c)) 13 3 ((pgHoN σ (nI c) (σ 10 c) (min i n)) 13 3 + 1)) n ad) (fun _ => pgR D cD cC A (pgU (pgU (pgU (pgHoN σ (nI c) (σ 10 c) (min i n)) 2 i ((pgHoN σ (nI c) (σ 10 c) (min i n)) 10 c)) 14 i ((pgHoN σ (nI c) (σ 10 c) (min i n)) 10 c)) 13 3 ((pgHoN σ (nI c) (σ 10 c) (min i n)) 13 3 + 1)) n ad) (c_X2_handOver l D cD cC cI cZ cL A (pgHoN σ (nI c) (σ 10 c) (min i n)) n ad i jh2 ((pgHoN σ (nI c) (σ 10 c) (min i n)) 10 c)) rfl (fun H h => pgR.x h) q_249 q_251 q_p1 q_1 q_252 hdX2_handOver rfl ⟨Nat.le_of_ble_eq_true rfl, Nat.le_of_ble_eq_true rfl⟩ (Nat.le_of_ble_eq_true rfl) dX2_handOverDisksIn_47 rfl ⟨Nat.le_of_ble_eq_true rfl, Nat.le_of_ble_eq_true rfl⟩ (fun _ h => h) (fun _ _ _ _ h => h) (fun _ h => h) (fun _ _ _ _ h _ _ => h) (fun _ _ => ?_)
        refine j_iinc B (v := nI (i + 1)) (L' := [(4, .int (nI (i + 1))), (5, .ref (ad (13 + i))), (3, .int 60), (2, .ref (ad 1)), (1, .ref (ad (3 + c))), (0, .ref (ad 0))]) dX2_handOverDisksIn_50 1 rfl (nI_1 i) (by decide) rfl ?_
        refine j_goto B 11 dX2_handOverDisksIn_53 (by decide) ?_
        refine j_locals [0, 2, 3, 4, 5] rfl ?_
        exact j_world (fun H h => pgR.eq h (pgHoM_t (by assumption) (by assumption) pgHoN_10)) (ih hlt () trivial)
theorem pgI_n {n : Nat} {σ : pgSt} (hI : pgI n σ) : ix (σ 13 0) = n := by
  rw [hI.2.1]
  exact nI_clamp (by have := hI.1; omega)
set_option maxHeartbeats 4000000 in
set_option maxRecDepth 100000 in
/-- has -/
theorem c_X2_has (l : Launch) (hl : l.stackTraces = false) (D : va_G) (cD cC cI cZ cL : ClassId) (A : Nat → Prop) (σ : pgSt) (n : Nat) (ad : Nat → Nat) (hI : pgI n σ) (k0 : Int32) : vx_Met l yX2_has (.code yX2_has cX2_has 7 (some .int) :: pgWd) ({ frames := 7, cells := 1, slots := 6, locals := 102 } : Room) (pgPc D (pgTys cD cC cI cZ cL) A (pgR D cD cC A σ n ad) [.ref (ad 0), .int k0]) (va_Qi (fun (r : Int32) (_ : Unit) => (sp_has σ k0).1 = 0 ∧ r = (sp_has σ k0).2.1) (fun _ t9 => pgR D cD cC A σ n ad t9.heap) A) (pgX A (fun k => (sp_has σ k0).1 = k ∧ k ≠ 0) (pgR D cD cC A σ n ad)) 1 6 A := by
  refine pg_enterX (own := RX2) (by decide) rfl (Nat.le_of_ble_eq_true rfl) (fun p e s m below meth cc9 B hr hnm ht => ?_)
  refine j_iload_n B dX2_has_0 1 rfl rfl ?_
  refine j_xSv B 1 [.int k0] ht (S := Unit) (WdC' := fun _ => pgR D cD cC A σ n ad)  (c_X2_requireKeeper l hl D cD cC cI cZ cL A σ n ad k0) q_97 q_98 q_1 q_99 hdX2_requireKeeper rfl ⟨Nat.le_of_ble_eq_true rfl, Nat.le_of_ble_eq_true rfl⟩ (Nat.le_of_ble_eq_true rfl) dX2_has_1 rfl ⟨Nat.le_of_ble_eq_true rfl, Nat.le_of_ble_eq_true rfl⟩ (Nat.le_of_ble_eq_true rfl) (Nat.le_of_ble_eq_true rfl) (fun k h => by obtain ⟨rfl, h9⟩ := h; simp [sp_has, h9]) (fun H h => h) (fun u1 hp2 => ?_)
  refine j_iconst B (v := 0) dX2_has_4 (by decide) ?_
  refine j_istore_n B (L' := [(2, .int 0), (0, .ref (ad 0)), (1, .int k0)]) dX2_has_5 rfl (by decide) rfl ?_
  refine j_aload_n B dX2_has_6 1 rfl rfl ?_
  refine j_get B (v := .ref (ad 1)) pgX2 rfl (fun H h => pgR.x h) 0 (by decide) q_45 rfl rfl dX2_has_7 ?_
  refine j_astore_n B (L' := [(3, .ref (ad 1)), (2, .int 0), (0, .ref (ad 0)), (1, .int k0)]) dX2_has_10 rfl (by decide) rfl ?_
  refine j_aload_n B dX2_has_11 0 rfl rfl ?_
  refine j_alen B (fun H h => pgR.bd h) 0 rfl (v := 60) rfl dX2_has_12 ?_
  refine j_istore B (L' := [(4, .int 60), (3, .ref (ad 1)), (2, .int 0), (0, .ref (ad 0)), (1, .int k0)]) dX2_has_13 (by decide) rfl ?_
  refine j_iconst B (v := 0) dX2_has_15 (by decide) ?_
  refine j_istore B (L' := [(5, .int 0), (4, .int 60), (3, .ref (ad 1)), (2, .int 0), (0, .ref (ad 0)), (1, .int k0)]) dX2_has_16 (by decide) rfl ?_
  refine j_locals [0, 1, 2, 3, 5, 4] rfl ?_
  refine j_loop (N := 60) (X := Int32) (fun i x => x = nI (pgN (fun j => decide (j < n ∧ σ 2 j = k0)) i)) (fun i x => pgR D cD cC A σ n ad) (fun i x => [(5, .int (nI i)), (4, .int 60), (3, .ref (ad 1)), (2, .int x), (1, .int k0), (0, .ref (ad 0))]) (fun i x hi hv ih => ?_) 0 0 (by omega) rfl
  refine j_iload B dX2_has_18 0 rfl ?_
  refine j_iload B dX2_has_20 1 rfl ?_
  refine j_icmp_ge B 54 dX2_has_22 (by decide) (fun h3 => ?_) (fun h3 => ?_)
  · obtain rfl := pg_eqN hi (by omega) h3
    refine j_iload_n B dX2_has_54 3 rfl rfl ?_
    have hv2 := hv.trans (congrArg nI (pgN_60 _ hI.1))
    have hv3 : ix (σ 13 0) = n := pgI_n hI
    exact j_x (j_iret B hr rfl dX2_has_55 (Nat.le_of_ble_eq_true rfl) (Nat.le_of_ble_eq_true rfl) () (by simp only [sp_has, hv3]; grind) (fun H h => h))
  · have hlt := pg_ltN (N := 60) (by omega) hi h3
    refine j_aload_n B dX2_has_25 2 rfl rfl ?_
    refine j_iload B dX2_has_26 0 rfl ?_
    refine j_aald B (fun H h => pgR.bd h) 0 rfl (vp_in_nI hlt (by omega)) dX2_has_28 (fun h4 => ?_) (fun y5 h4 => ?_)
    · have nh4 := pgBd_nI hlt h4
      refine j_astoreN B (L' := [(6, .null), (5, .int (nI i)), (4, .int 60), (3, .ref (ad 1)), (2, .int x), (1, .int k0), (0, .ref (ad 0))]) dX2_has_29 (by decide) rfl ?_
      refine j_aloadN B dX2_has_31 0 rfl ?_
      refine j_ifnullN B 48 dX2_has_33 (by decide) ?_
      refine j_iinc B (v := nI (i + 1)) (L' := [(5, .int (nI (i + 1))), (6, .null), (4, .int 60), (3, .ref (ad 1)), (2, .int x), (1, .int k0), (0, .ref (ad 0))]) dX2_has_48 1 rfl (nI_1 i) (by decide) rfl ?_
      refine j_goto B 18 dX2_has_51 (by decide) ?_
      refine j_locals [0, 2, 3, 4, 5, 6] rfl ?_
      exact ih hlt _ (pgN_f2 hv (by simp [*]))
    · obtain ⟨jh4, rfl⟩ := pgBd_sI hlt h4
      refine j_astore B (L' := [(6, .ref (ad (13 + i))), (5, .int (nI i)), (4, .int 60), (3, .ref (ad 1)), (2, .int x), (1, .int k0), (0, .ref (ad 0))]) dX2_has_29 (by decide) rfl ?_
      refine j_aload B dX2_has_31 0 rfl ?_
      refine j_ifnull B dX2_has_33 ?_
      refine j_aload B dX2_has_36 0 rfl ?_
      refine j_get B (v := .int (σ 2 i)) pgX1 rfl (fun H h => pgR.dk h jh4) 2 (by decide) q_210 rfl rfl dX2_has_38 ?_
      refine j_iload_n B dX2_has_41 5 rfl rfl ?_
      refine j_icmp_ne B 48 dX2_has_42 (by decide) (fun h6 => ?_) (fun h6 => ?_)
      · refine j_iinc B (v := nI (i + 1)) (L' := [(5, .int (nI (i + 1))), (6, .ref (ad (13 + i))), (4, .int 60), (3, .ref (ad 1)), (2, .int x), (1, .int k0), (0, .ref (ad 0))]) dX2_has_48 1 rfl (nI_1 i) (by decide) rfl ?_
        refine j_goto B 18 dX2_has_51 (by decide) ?_
        refine j_locals [0, 2, 3, 4, 5, 6] rfl ?_
        exact ih hlt _ (pgN_f2 hv (by simp [*]))
      · refine j_iinc B (v := (x + 1)) (L' := [(2, .int (x + 1)), (6, .ref (ad (13 + i))), (5, .int (nI i)), (4, .int 60), (3, .ref (ad 1)), (1, .int k0), (0, .ref (ad 0))]) dX2_has_45 4 rfl rfl (by decide) rfl ?_
        refine j_iinc B (v := nI (i + 1)) (L' := [(5, .int (nI (i + 1))), (2, .int (x + 1)), (6, .ref (ad (13 + i))), (4, .int 60), (3, .ref (ad 1)), (1, .int k0), (0, .ref (ad 0))]) dX2_has_48 2 rfl (nI_1 i) (by decide) rfl ?_
        refine j_goto B 18 dX2_has_51 (by decide) ?_
        refine j_locals [0, 3, 4, 1, 5, 6] rfl ?_
        exact ih hlt _ (pgN_t2 hv (by simp [*]))
set_option maxHeartbeats 4000000 in
set_option maxRecDepth 100000 in
/-- missing -/
theorem c_X2_missing (l : Launch) (D : va_G) (cD cC cI cZ cL : ClassId) (A : Nat → Prop) (σ : pgSt) (n : Nat) (ad : Nat → Nat) (hI : pgI n σ) : Met l yX2_missing (.code yX2_missing cX2_missing 6 (some .int) :: pgWd) ({ frames := 0, cells := 0, slots := 0, locals := 0 } : Room) (pgPc D (pgTys cD cC cI cZ cL) A (pgR D cD cC A σ n ad) [.ref (ad 0)]) (va_Qi (fun (r : Int32) (_ : Unit) => r = pgMis σ) (fun _ t9 => pgR D cD cC A σ n ad t9.heap) A) 0 0 A := by
  refine pg_enter (own := RX2) (by decide) rfl (Nat.le_of_ble_eq_true rfl) (fun p e s m below meth cc9 B hr hnm => ?_)
  refine j_iconst B (v := 0) dX2_missing_0 (by decide) ?_
  refine j_istore_n B (L' := [(1, .int 0), (0, .ref (ad 0))]) dX2_missing_1 rfl (by decide) rfl ?_
  refine j_aload_n B dX2_missing_2 1 rfl rfl ?_
  refine j_get B (v := .ref (ad 1)) pgX2 rfl (fun H h => pgR.x h) 0 (by decide) q_45 rfl rfl dX2_missing_3 ?_
  refine j_astore_n B (L' := [(2, .ref (ad 1)), (1, .int 0), (0, .ref (ad 0))]) dX2_missing_6 rfl (by decide) rfl ?_
  refine j_aload_n B dX2_missing_7 0 rfl rfl ?_
  refine j_alen B (fun H h => pgR.bd h) 0 rfl (v := 60) rfl dX2_missing_8 ?_
  refine j_istore_n B (L' := [(3, .int 60), (2, .ref (ad 1)), (1, .int 0), (0, .ref (ad 0))]) dX2_missing_9 rfl (by decide) rfl ?_
  refine j_iconst B (v := 0) dX2_missing_10 (by decide) ?_
  refine j_istore B (L' := [(4, .int 0), (3, .int 60), (2, .ref (ad 1)), (1, .int 0), (0, .ref (ad 0))]) dX2_missing_11 (by decide) rfl ?_
  refine j_locals [0, 1, 2, 3, 4] rfl ?_
  refine j_loop (N := 60) (X := Int32) (fun i x => x = nI (pgN (fun j => decide (j < n ∧ σ 5 j ≠ 0)) i)) (fun i x => pgR D cD cC A σ n ad) (fun i x => [(4, .int (nI i)), (3, .int 60), (2, .ref (ad 1)), (1, .int x), (0, .ref (ad 0))]) (fun i x hi hv ih => ?_) 0 0 (by omega) rfl
  refine j_iload B dX2_missing_13 0 rfl ?_
  refine j_iload_n B dX2_missing_15 1 rfl rfl ?_
  refine j_icmp_ge B 47 dX2_missing_16 (by decide) (fun h1 => ?_) (fun h1 => ?_)
  · obtain rfl := pg_eqN hi (by omega) h1
    refine j_iload_n B dX2_missing_47 3 rfl rfl ?_
    have hv3 : ix (σ 13 0) = n := pgI_n hI
    exact j_iret B hr rfl dX2_missing_48 (Nat.le_of_ble_eq_true rfl) (Nat.le_of_ble_eq_true rfl) () (by rw [pgMis, hv3]; exact hv.trans (congrArg nI (pgN_60 _ hI.1))) (fun H h => h)
  · have hlt := pg_ltN (N := 60) (by omega) hi h1
    refine j_aload_n B dX2_missing_19 2 rfl rfl ?_
    refine j_iload B dX2_missing_20 0 rfl ?_
    refine j_aald B (fun H h => pgR.bd h) 0 rfl (vp_in_nI hlt (by omega)) dX2_missing_22 (fun h2 => ?_) (fun y3 h2 => ?_)
    · have nh2 := pgBd_nI hlt h2
      refine j_astoreN B (L' := [(5, .null), (4, .int (nI i)), (3, .int 60), (2, .ref (ad 1)), (1, .int x), (0, .ref (ad 0))]) dX2_missing_23 (by decide) rfl ?_
      refine j_aloadN B dX2_missing_25 0 rfl ?_
      refine j_ifnullN B 41 dX2_missing_27 (by decide) ?_
      refine j_iinc B (v := nI (i + 1)) (L' := [(4, .int (nI (i + 1))), (5, .null), (3, .int 60), (2, .ref (ad 1)), (1, .int x), (0, .ref (ad 0))]) dX2_missing_41 1 rfl (nI_1 i) (by decide) rfl ?_
      refine j_goto B 13 dX2_missing_44 (by decide) ?_
      refine j_locals [0, 2, 3, 4, 5] rfl ?_
      exact ih hlt _ (pgN_f2 hv (by simp [*]))
    · obtain ⟨jh2, rfl⟩ := pgBd_sI hlt h2
      refine j_astore B (L' := [(5, .ref (ad (13 + i))), (4, .int (nI i)), (3, .int 60), (2, .ref (ad 1)), (1, .int x), (0, .ref (ad 0))]) dX2_missing_23 (by decide) rfl ?_
      refine j_aload B dX2_missing_25 0 rfl ?_
      refine j_ifnull B dX2_missing_27 ?_
      refine j_aload B dX2_missing_30 0 rfl ?_
      refine j_get B (v := .int (σ 5 i)) pgX1 rfl (fun H h => pgR.dk h jh2) 9 (by decide) q_222 rfl rfl dX2_missing_32 ?_
      refine j_if_eq B 41 dX2_missing_35 (by decide) (fun h4 => ?_) (fun h4 => ?_)
      · refine j_iinc B (v := nI (i + 1)) (L' := [(4, .int (nI (i + 1))), (5, .ref (ad (13 + i))), (3, .int 60), (2, .ref (ad 1)), (1, .int x), (0, .ref (ad 0))]) dX2_missing_41 1 rfl (nI_1 i) (by decide) rfl ?_
        refine j_goto B 13 dX2_missing_44 (by decide) ?_
        refine j_locals [0, 2, 3, 4, 5] rfl ?_
        exact ih hlt _ (pgN_f2 hv (by simp [*]))
      · refine j_iinc B (v := (x + 1)) (L' := [(1, .int (x + 1)), (5, .ref (ad (13 + i))), (4, .int (nI i)), (3, .int 60), (2, .ref (ad 1)), (0, .ref (ad 0))]) dX2_missing_38 4 rfl rfl (by decide) rfl ?_
        refine j_iinc B (v := nI (i + 1)) (L' := [(4, .int (nI (i + 1))), (1, .int (x + 1)), (5, .ref (ad (13 + i))), (3, .int 60), (2, .ref (ad 1)), (0, .ref (ad 0))]) dX2_missing_41 2 rfl (nI_1 i) (by decide) rfl ?_
        refine j_goto B 13 dX2_missing_44 (by decide) ?_
        refine j_locals [0, 3, 4, 1, 5] rfl ?_
        exact ih hlt _ (pgN_t2 hv (by simp [*]))
end
section
theorem pgCr_U {n j : Nat} {σ : pgSt} {v : Int32} (h : pgCr n σ) (hv : v = -1 ∨ ∃ c, c < 10 ∧ v = nI c) : pgCr n (pgU σ 3 j v) := by
  intro i hi
  by_cases e : i = j
  · subst e
    rw [pgU_self]
    exact hv
  · rw [pgU_nj e]
    exact h i hi
theorem pgU_same {σ : pgSt} {t i : Nat} {v : Int32} (h : σ t i = v) : pgU σ t i v = σ := by
  funext a j
  unfold pgU
  split
  · next q => rw [q.1, q.2, h]
  · rfl
theorem pgCr_ne {n t j : Nat} {σ : pgSt} {v : Int32} (ht : 3 ≠ t) (h : pgCr n σ) : pgCr n (pgU σ t j v) := by
  intro i hi
  rw [pgU_ne ht]
  exact h i hi
set_option maxHeartbeats 4000000 in
set_option maxRecDepth 100000 in
/-- offer -/
theorem c_X2_offer (l : Launch) (hl : l.stackTraces = false) (D : va_G) (cD cC cI cZ cL : ClassId) (A : Nat → Prop) (σ : pgSt) (n : Nat) (ad : Nat → Nat) (hI : pgI n σ) (d : Int32) (to : Int32) : vx_Met l yX2_offer (.code yX2_offer cX2_offer 4 (some .int) :: pgWd) ({ frames := 7, cells := 3, slots := 18, locals := 104 } : Room) (pgPc D (pgTys cD cC cI cZ cL) A (pgR D cD cC A σ n ad) [.ref (ad 0), .int d, .int to]) (va_Qi (fun (r : Int32) (_ : Unit) => (sp_offer σ d to).1 = 0 ∧ r = (sp_offer σ d to).2.1) (fun _ t9 => pgR D cD cC A ((sp_offer σ d to).2.2) n ad t9.heap) A) (pgX A (fun k => (sp_offer σ d to).1 = k ∧ k ≠ 0) (pgR D cD cC A σ n ad)) 3 18 A := by
  refine pg_enterX (own := RX2) (by decide) rfl (Nat.le_of_ble_eq_true rfl) (fun p e s m below meth cc9 B hr hnm ht => ?_)
  refine j_fact (fun H h => pgR.inA h) (fun hIn => ?_)
  refine j_aload_n B dX2_offer_0 0 rfl rfl ?_
  refine j_iload_n B dX2_offer_1 1 rfl rfl ?_
  refine j_xVr B 1 [.int d] ht (WdC' := pgR D cD cC A σ n ad)  (c_X2_findDisk l hl D cD cC cI cZ cL A σ n ad hI d) rfl (fun H h => pgR.x h) q_260 q_262 q_p2 q_1 q_263 hdX2_findDisk rfl ⟨Nat.le_of_ble_eq_true rfl, Nat.le_of_ble_eq_true rfl⟩ (Nat.le_of_ble_eq_true rfl) dX2_offer_2 rfl ⟨Nat.le_of_ble_eq_true rfl, Nat.le_of_ble_eq_true rfl⟩ (Nat.le_of_ble_eq_true rfl) (Nat.le_of_ble_eq_true rfl) (fun k h => by obtain ⟨rfl, h9⟩ := h; simp only [sp_offer]; grind) (fun H h => h) (fun r1 hp2 => ?_)
  obtain ⟨rfl, hD3⟩ := hp2
  have hj4 := (pgIsD.at hI hD3).1
  refine j_astore_n B (L' := [(3, .ref (ad (13 + ix d))), (0, .ref (ad 0)), (1, .int d), (2, .int to)]) dX2_offer_5 rfl (by decide) rfl ?_
  refine j_iload_n B dX2_offer_6 3 rfl rfl ?_
  refine j_xSv B 1 [.int to] ht (S := Unit) (WdC' := fun _ => pgR D cD cC A σ n ad)  (c_X2_requireKeeper l hl D cD cC cI cZ cL A σ n ad to) q_97 q_98 q_1 q_99 hdX2_requireKeeper rfl ⟨Nat.le_of_ble_eq_true rfl, Nat.le_of_ble_eq_true rfl⟩ (Nat.le_of_ble_eq_true rfl) dX2_offer_7 rfl ⟨Nat.le_of_ble_eq_true rfl, Nat.le_of_ble_eq_true rfl⟩ (Nat.le_of_ble_eq_true rfl) (Nat.le_of_ble_eq_true rfl) (fun k h => by obtain ⟨rfl, h9⟩ := h; simp only [sp_offer]; grind) (fun H h => h) (fun u5 hp6 => ?_)
  refine j_iload_n B dX2_offer_10 3 rfl rfl ?_
  refine j_aload_n B dX2_offer_11 0 rfl rfl ?_
  refine j_get B (v := .int (σ 2 (ix d))) pgX1 rfl (fun H h => pgR.dk h hj4) 2 (by decide) q_210 rfl rfl dX2_offer_12 ?_
  refine j_icmp_ne B 28 dX2_offer_15 (by decide) (fun h7 => ?_) (fun h7 => ?_)
  · refine j_aload_n B dX2_offer_28 0 rfl rfl ?_
    refine j_xSv B 1 [.ref (ad (13 + ix d))] ht (S := Unit) (WdC' := fun _ => pgR D cD cC A σ n ad)  (c_X2_requireLoose l hl D cD cC cI cZ cL A σ n ad (ix d) hj4 hI.2.2.1) q_266 q_267 q_1 q_268 hdX2_requireLoose rfl ⟨Nat.le_of_ble_eq_true rfl, Nat.le_of_ble_eq_true rfl⟩ (Nat.le_of_ble_eq_true rfl) dX2_offer_29 rfl ⟨Nat.le_of_ble_eq_true rfl, Nat.le_of_ble_eq_true rfl⟩ (Nat.le_of_ble_eq_true rfl) (Nat.le_of_ble_eq_true rfl) (fun k h => by obtain ⟨rfl, h9⟩ := h; simp only [sp_offer]; grind) (fun H h => h) (fun u8 hp9 => ?_)
    refine j_aload_n B dX2_offer_32 0 rfl rfl ?_
    refine j_iload_n B dX2_offer_33 3 rfl rfl ?_
    refine j_put B (Wd' := pgR D cD cC A (pgU σ 6 (ix d) to) n ad) pgX1 tyX1 tyX1_ok nmX1 rfl (fun H h => pgR.dk h hj4) 5 (by decide) q_215 rfl rfl rfl rfl rfl (Nat.le_of_ble_eq_true rfl) dX2_offer_34 (hIn (13 + ix d) (by omega)) (fun H H1 h hc hz ho => pgR.putD h hj4 (by decide) pgDs5 hc ho) ?_
    refine j_aload_n B dX2_offer_37 0 rfl rfl ?_
    refine j_get B (v := .int (σ 2 (ix d))) pgX1 rfl (fun H h => pgR.dk h hj4) 2 (by decide) q_210 rfl rfl dX2_offer_38 ?_
    have e9 : sp_offer σ d to = (0, σ 2 (ix d), pgU σ 6 (ix d) to) := by
      simp only [sp_offer]; grind
    exact j_x (j_iret B hr rfl dX2_offer_41 (Nat.le_of_ble_eq_true rfl) (Nat.le_of_ble_eq_true rfl) () ⟨by rw [e9], by rw [e9]⟩ (fun H h => pgR.eq h (by rw [e9])))
  · exact j_throw (k := 2) pgTA pgTA2 pgTA3 rfl q_169 q_8 rfl B hl ht (is := 57) (text := "the disk is offered to its keeper") (by decide) dX2_offer_18 dX2_offer_21 dX2_offer_22 dX2_offer_24 dX2_offer_27 (Nat.le_of_ble_eq_true rfl) (Nat.le_of_ble_eq_true rfl) (Nat.le_of_ble_eq_true rfl) (Nat.le_of_ble_eq_true rfl) (Nat.le_of_ble_eq_true rfl) (Nat.le_of_ble_eq_true rfl) (by simp only [sp_offer]; grind) (fun H H1 h hq => pgR.more h hq)
set_option maxHeartbeats 4000000 in
set_option maxRecDepth 100000 in
/-- answer -/
theorem c_X2_answer (l : Launch) (hl : l.stackTraces = false) (D : va_G) (cD cC cI cZ cL : ClassId) (A : Nat → Prop) (σ : pgSt) (n : Nat) (ad : Nat → Nat) (hI : pgI n σ) (d : Int32) (t : Int32) : vx_Met l yX2_answer (.code yX2_answer cX2_answer 5 (some .int) :: pgWd) ({ frames := 7, cells := 2, slots := 12, locals := 104 } : Room) (pgPc D (pgTys cD cC cI cZ cL) A (pgR D cD cC A σ n ad) [.ref (ad 0), .int d, .int t]) (va_Qi (fun (r : Int32) (_ : Unit) => (sp_answer σ d t).1 = 0 ∧ r = (sp_answer σ d t).2.1) (fun _ t9 => pgR D cD cC A ((sp_answer σ d t).2.2) n ad t9.heap) A) (pgX A (fun k => (sp_answer σ d t).1 = k ∧ k ≠ 0) (pgR D cD cC A σ n ad)) 2 12 A := by
  refine pg_enterX (own := RX2) (by decide) rfl (Nat.le_of_ble_eq_true rfl) (fun p e s m below meth cc9 B hr hnm ht => ?_)
  refine j_fact (fun H h => pgR.inA h) (fun hIn => ?_)
  refine j_aload_n B dX2_answer_0 0 rfl rfl ?_
  refine j_iload_n B dX2_answer_1 1 rfl rfl ?_
  refine j_xVr B 1 [.int d] ht (WdC' := pgR D cD cC A σ n ad)  (c_X2_findDisk l hl D cD cC cI cZ cL A σ n ad hI d) rfl (fun H h => pgR.x h) q_260 q_262 q_p2 q_1 q_263 hdX2_findDisk rfl ⟨Nat.le_of_ble_eq_true rfl, Nat.le_of_ble_eq_true rfl⟩ (Nat.le_of_ble_eq_true rfl) dX2_answer_2 rfl ⟨Nat.le_of_ble_eq_true rfl, Nat.le_of_ble_eq_true rfl⟩ (Nat.le_of_ble_eq_true rfl) (Nat.le_of_ble_eq_true rfl) (fun k h => by obtain ⟨rfl, h9⟩ := h; simp only [sp_answer]; grind) (fun H h => h) (fun r1 hp2 => ?_)
  obtain ⟨rfl, hD3⟩ := hp2
  have hj4 := (pgIsD.at hI hD3).1
  refine j_astore_n B (L' := [(3, .ref (ad (13 + ix d))), (0, .ref (ad 0)), (1, .int d), (2, .int t)]) dX2_answer_5 rfl (by decide) rfl ?_
  refine j_aload_n B dX2_answer_6 0 rfl rfl ?_
  refine j_get B (v := .int (σ 5 (ix d))) pgX1 rfl (fun H h => pgR.dk h hj4) 9 (by decide) q_222 rfl rfl dX2_answer_7 ?_
  refine j_if_ne B 21 dX2_answer_10 (by decide) (fun h5 => ?_) (fun h5 => ?_)
  · exact j_throw (k := 3) pgTS pgTS2 pgTS3 rfl q_185 q_9 rfl B hl ht (is := 70) (text := "the disk is missing or not offered") (by decide) dX2_answer_21 dX2_answer_24 dX2_answer_25 dX2_answer_27 dX2_answer_30 (Nat.le_of_ble_eq_true rfl) (Nat.le_of_ble_eq_true rfl) (Nat.le_of_ble_eq_true rfl) (Nat.le_of_ble_eq_true rfl) (Nat.le_of_ble_eq_true rfl) (Nat.le_of_ble_eq_true rfl) (by simp only [sp_answer]; grind) (fun H H1 h hq => pgR.more h hq)
  · refine j_aload_n B dX2_answer_13 0 rfl rfl ?_
    refine j_get B (v := .int (σ 6 (ix d))) pgX1 rfl (fun H h => pgR.dk h hj4) 5 (by decide) q_215 rfl rfl dX2_answer_14 ?_
    refine j_iconst B (v := (-1)) dX2_answer_17 (by decide) ?_
    refine j_icmp_ne B 31 dX2_answer_18 (by decide) (fun h6 => ?_) (fun h6 => ?_)
    · refine j_aload_n B dX2_answer_31 0 rfl rfl ?_
      refine j_get B (v := .int (σ 6 (ix d))) pgX1 rfl (fun H h => pgR.dk h hj4) 5 (by decide) q_215 rfl rfl dX2_answer_32 ?_
      refine j_istore B (L' := [(4, .int (σ 6 (ix d))), (3, .ref (ad (13 + ix d))), (0, .ref (ad 0)), (1, .int d), (2, .int t)]) dX2_answer_35 (by decide) rfl ?_
      refine j_aload_n B dX2_answer_37 1 rfl rfl ?_
      refine j_iconst B (v := (-1)) dX2_answer_38 (by decide) ?_
      refine j_put B (Wd' := pgR D cD cC A (pgU σ 6 (ix d) (-1)) n ad) pgX1 tyX1 tyX1_ok nmX1 rfl (fun H h => pgR.dk h hj4) 5 (by decide) q_215 rfl rfl rfl rfl rfl (Nat.le_of_ble_eq_true rfl) dX2_answer_39 (hIn (13 + ix d) (by omega)) (fun H H1 h hc hz ho => pgR.putD h hj4 (by decide) pgDs5 hc ho) ?_
      refine j_iload_n B dX2_answer_42 4 rfl rfl ?_
      refine j_if_eq B 53 dX2_answer_43 (by decide) (fun h7 => ?_) (fun h7 => ?_)
      · refine j_aload_n B dX2_answer_53 1 rfl rfl ?_
        refine j_get B (v := .int (σ 2 (ix d))) pgX1 rfl (fun H h => pgR.dk h hj4) 2 (by decide) q_210 rfl rfl dX2_answer_54 ?_
        have e9 : sp_answer σ d t = (0, σ 2 (ix d), pgU σ 6 (ix d) (-1)) := by
          simp only [sp_answer, pgHo, pgU_ne (show (13 : Nat) ≠ 6 by decide)]; grind
        exact j_x (j_iret B hr rfl dX2_answer_57 (Nat.le_of_ble_eq_true rfl) (Nat.le_of_ble_eq_true rfl) () ⟨by rw [e9], by rw [e9]⟩ (fun H h => pgR.eq h (by rw [e9])))
      · refine j_aload_n B dX2_answer_46 2 rfl rfl ?_
        refine j_aload_n B dX2_answer_47 1 rfl rfl ?_
        refine j_iload B dX2_answer_48 0 rfl ?_
        refine j_cVv B (S := Unit) 2 [.ref (ad (13 + ix d)), .int (σ 6 (ix d))] (WdC' := fun _ => pgR D cD cC A (pgU (pgU (pgU (pgU σ 6 (ix d) (-1)) 2 (ix d) (σ 6 (ix d))) 14 (ix d) (σ 6 (ix d))) 13 3 (σ 13 3 + 1)) n ad) (fun _ => pgR D cD cC A (pgU (pgU (pgU (pgU σ 6 (ix d) (-1)) 2 (ix d) (σ 6 (ix d))) 14 (ix d) (σ 6 (ix d))) 13 3 (σ 13 3 + 1)) n ad) (c_X2_handOver l D cD cC cI cZ cL A (pgU σ 6 (ix d) (-1)) n ad (ix d) hj4 (σ 6 (ix d))) rfl (fun H h => pgR.x h) q_249 q_251 q_p1 q_1 q_252 hdX2_handOver rfl ⟨Nat.le_of_ble_eq_true rfl, Nat.le_of_ble_eq_true rfl⟩ (Nat.le_of_ble_eq_true rfl) dX2_answer_50 rfl ⟨Nat.le_of_ble_eq_true rfl, Nat.le_of_ble_eq_true rfl⟩ (fun _ h => h) (fun _ _ _ _ h => h) (fun _ h => h) (fun _ _ _ _ h _ _ => h) (fun _ _ => ?_)
        refine j_aload_n B dX2_answer_53 1 rfl rfl ?_
        refine j_get B (v := .int (σ 6 (ix d))) pgX1 rfl (fun H h => pgR.dk h hj4) 2 (by decide) q_210 rfl (by simp [pgU]) dX2_answer_54 ?_
        have e9 : sp_answer σ d t = (0, σ 6 (ix d), pgU (pgU (pgU (pgU σ 6 (ix d) (-1)) 2 (ix d) (σ 6 (ix d))) 14 (ix d) (σ 6 (ix d))) 13 3 (σ 13 3 + 1)) := by
          simp only [sp_answer, pgHo, pgU_ne (show (13 : Nat) ≠ 6 by decide)]; grind
        exact j_x (j_iret B hr rfl dX2_answer_57 (Nat.le_of_ble_eq_true rfl) (Nat.le_of_ble_eq_true rfl) () ⟨by rw [e9], by rw [e9]⟩ (fun H h => pgR.eq h (by rw [e9])))
    · exact j_throw (k := 3) pgTS pgTS2 pgTS3 rfl q_185 q_9 rfl B hl ht (is := 70) (text := "the disk is missing or not offered") (by decide) dX2_answer_21 dX2_answer_24 dX2_answer_25 dX2_answer_27 dX2_answer_30 (Nat.le_of_ble_eq_true rfl) (Nat.le_of_ble_eq_true rfl) (Nat.le_of_ble_eq_true rfl) (Nat.le_of_ble_eq_true rfl) (Nat.le_of_ble_eq_true rfl) (Nat.le_of_ble_eq_true rfl) (by simp only [sp_answer]; grind) (fun H H1 h hq => pgR.more h hq)
set_option maxHeartbeats 4000000 in
set_option maxRecDepth 100000 in
/-- pack -/
theorem c_X2_pack (l : Launch) (hl : l.stackTraces = false) (D : va_G) (cD cC cI cZ cL : ClassId) (A : Nat → Prop) (σ : pgSt) (n : Nat) (ad : Nat → Nat) (hI : pgI n σ) (d : Int32) (c : Int32) : vx_Met l yX2_pack (.code yX2_pack cX2_pack 5 (some .int) :: pgWd) ({ frames := 7, cells := 4, slots := 24, locals := 104 } : Room) (pgPc D (pgTys cD cC cI cZ cL) A (pgR D cD cC A σ n ad) [.ref (ad 0), .int d, .int c]) (va_Qi (fun (r : Int32) (_ : Unit) => (sp_pack σ d c).1 = 0 ∧ r = (sp_pack σ d c).2.1) (fun _ t9 => pgR D cD cC A ((sp_pack σ d c).2.2) n ad t9.heap) A) (pgX A (fun k => (sp_pack σ d c).1 = k ∧ k ≠ 0) (pgR D cD cC A σ n ad)) 4 24 A := by
  refine pg_enterX (own := RX2) (by decide) rfl (Nat.le_of_ble_eq_true rfl) (fun p e s m below meth cc9 B hr hnm ht => ?_)
  refine j_fact (fun H h => pgR.inA h) (fun hIn => ?_)
  refine j_aload_n B dX2_pack_0 0 rfl rfl ?_
  refine j_iload_n B dX2_pack_1 1 rfl rfl ?_
  refine j_xVr B 1 [.int d] ht (WdC' := pgR D cD cC A σ n ad)  (c_X2_findDisk l hl D cD cC cI cZ cL A σ n ad hI d) rfl (fun H h => pgR.x h) q_260 q_262 q_p2 q_1 q_263 hdX2_findDisk rfl ⟨Nat.le_of_ble_eq_true rfl, Nat.le_of_ble_eq_true rfl⟩ (Nat.le_of_ble_eq_true rfl) dX2_pack_2 rfl ⟨Nat.le_of_ble_eq_true rfl, Nat.le_of_ble_eq_true rfl⟩ (Nat.le_of_ble_eq_true rfl) (Nat.le_of_ble_eq_true rfl) (fun k h => by obtain ⟨rfl, h9⟩ := h; simp only [sp_pack]; grind) (fun H h => h) (fun r1 hp2 => ?_)
  obtain ⟨rfl, hD3⟩ := hp2
  have hj4 := (pgIsD.at hI hD3).1
  refine j_astore_n B (L' := [(3, .ref (ad (13 + ix d))), (0, .ref (ad 0)), (1, .int d), (2, .int c)]) dX2_pack_5 rfl (by decide) rfl ?_
  refine j_aload_n B dX2_pack_6 1 rfl rfl ?_
  refine j_iload_n B dX2_pack_7 3 rfl rfl ?_
  refine j_xVr B 1 [.int c] ht (WdC' := pgR D cD cC A σ n ad)  (c_X2_findCrate l hl D cD cC cI cZ cL A σ n ad c) rfl (fun H h => pgR.x h) q_285 q_287 q_p3 q_1 q_288 hdX2_findCrate rfl ⟨Nat.le_of_ble_eq_true rfl, Nat.le_of_ble_eq_true rfl⟩ (Nat.le_of_ble_eq_true rfl) dX2_pack_8 rfl ⟨Nat.le_of_ble_eq_true rfl, Nat.le_of_ble_eq_true rfl⟩ (Nat.le_of_ble_eq_true rfl) (Nat.le_of_ble_eq_true rfl) (fun k h => by obtain ⟨rfl, h9⟩ := h; simp only [sp_pack]; grind) (fun H h => h) (fun r5 hp6 => ?_)
  obtain ⟨rfl, hD7⟩ := hp6
  have hj8 := (pgIsC.at hD7).1
  refine j_astore B (L' := [(4, .ref (ad (3 + ix c))), (3, .ref (ad (13 + ix d))), (0, .ref (ad 0)), (1, .int d), (2, .int c)]) dX2_pack_11 (by decide) rfl ?_
  refine j_aload_n B dX2_pack_13 1 rfl rfl ?_
  refine j_xSv B 1 [.ref (ad (13 + ix d))] ht (S := Unit) (WdC' := fun _ => pgR D cD cC A σ n ad)  (c_X2_requireLoose l hl D cD cC cI cZ cL A σ n ad (ix d) hj4 hI.2.2.1) q_266 q_267 q_1 q_268 hdX2_requireLoose rfl ⟨Nat.le_of_ble_eq_true rfl, Nat.le_of_ble_eq_true rfl⟩ (Nat.le_of_ble_eq_true rfl) dX2_pack_14 rfl ⟨Nat.le_of_ble_eq_true rfl, Nat.le_of_ble_eq_true rfl⟩ (Nat.le_of_ble_eq_true rfl) (Nat.le_of_ble_eq_true rfl) (fun k h => by obtain ⟨rfl, h9⟩ := h; simp only [sp_pack]; grind) (fun H h => h) (fun u9 hp10 => ?_)
  refine j_aload B dX2_pack_17 0 rfl ?_
  refine j_cVi B (S := Unit) 0 [] (WdC' := fun _ => pgR D cD cC A σ n ad) (fun _ => pgR D cD cC A σ n ad) (c_X0_isSealed l D cD cC cI cZ cL A σ n ad (ix c) hj8) rfl (fun H h => pgR.cr h hj8) q_290 q_291 q_292 q_2 q_293 hdX0_isSealed rfl ⟨Nat.le_of_ble_eq_true rfl, Nat.le_of_ble_eq_true rfl⟩ (Nat.le_of_ble_eq_true rfl) dX2_pack_19 rfl ⟨Nat.le_of_ble_eq_true rfl, Nat.le_of_ble_eq_true rfl⟩ (fun _ h => h) (fun _ _ _ _ h => h) (fun _ h => h) (fun _ _ _ _ h _ _ => h) (fun r11 _ hp12 => ?_)
  by_cases h13 : ¬ σ 11 (ix c) = -1
  · obtain rfl : r11 = 1 := by rw [hp12]; exact if_pos h13
    refine j_if_ne B 37 dX2_pack_22 (by decide) (fun h14 => ?_) (fun h14 => (absurd h14 (by decide)))
    exact j_throw (k := 3) pgTS pgTS2 pgTS3 rfl q_185 q_9 rfl B hl ht (is := 81) (text := "the crate is sealed or with another keeper") (by decide) dX2_pack_37 dX2_pack_40 dX2_pack_41 dX2_pack_43 dX2_pack_46 (Nat.le_of_ble_eq_true rfl) (Nat.le_of_ble_eq_true rfl) (Nat.le_of_ble_eq_true rfl) (Nat.le_of_ble_eq_true rfl) (Nat.le_of_ble_eq_true rfl) (Nat.le_of_ble_eq_true rfl) (by simp only [sp_pack]; grind) (fun H H1 h hq => pgR.more h hq)
  · obtain rfl : r11 = 0 := by rw [hp12]; exact if_neg h13
    refine j_if_ne B 37 dX2_pack_22 (by decide) (fun h15 => (absurd (by decide) h15)) (fun h15 => ?_)
    refine j_aload B dX2_pack_25 0 rfl ?_
    refine j_get B (v := .int (σ 10 (ix c))) pgX0 rfl (fun H h => pgR.cr h hj8) 1 (by decide) q_32 rfl rfl dX2_pack_27 ?_
    refine j_aload_n B dX2_pack_30 1 rfl rfl ?_
    refine j_get B (v := .int (σ 2 (ix d))) pgX1 rfl (fun H h => pgR.dk h hj4) 2 (by decide) q_210 rfl rfl dX2_pack_31 ?_
    refine j_icmp_eq B 47 dX2_pack_34 (by decide) (fun h16 => ?_) (fun h16 => ?_)
    · refine j_aload_n B dX2_pack_47 1 rfl rfl ?_
      refine j_aload B dX2_pack_48 0 rfl ?_
      refine j_put B (Wd' := pgR D cD cC A (pgU σ 3 (ix d) c) n ad) pgX1 tyX1 tyX1_ok nmX1 rfl (fun H h => pgR.dk h hj4) 4 (by decide) q_213 rfl rfl rfl rfl rfl (Nat.le_of_ble_eq_true rfl) dX2_pack_50 (hIn (13 + ix d) (by omega)) (fun H H1 h hc hz ho => pgR.putD h hj4 (by decide) (pgDs4r hj8 (pgIsC.at hD7).2) hc ho) ?_
      refine j_aload_n B dX2_pack_53 2 rfl rfl ?_
      refine j_aload B dX2_pack_54 0 rfl ?_
      refine j_cVi B (S := Unit) 1 [.ref (ad (3 + ix c))] (WdC' := fun _ => pgR D cD cC A (pgU σ 3 (ix d) c) n ad) (fun _ => pgR D cD cC A (pgU σ 3 (ix d) c) n ad) (c_X2_countDisksIn l D cD cC cI cZ cL A (pgU σ 3 (ix d) c) n ad (ix c) hj8 hI.1 (pgCr_U hI.2.2.1 (Or.inr ⟨ix c, (pgIsC.at (by assumption)).1, (pgIsC.at (by assumption)).2⟩))) rfl (fun H h => pgR.x h) q_295 q_297 q_p4 q_1 q_298 hdX2_countDisksIn rfl ⟨Nat.le_of_ble_eq_true rfl, Nat.le_of_ble_eq_true rfl⟩ (Nat.le_of_ble_eq_true rfl) dX2_pack_56 rfl ⟨Nat.le_of_ble_eq_true rfl, Nat.le_of_ble_eq_true rfl⟩ (fun _ h => h) (fun _ _ _ _ h => h) (fun _ h => h) (fun _ _ _ _ h _ _ => h) (fun r17 _ hp18 => ?_)
      obtain rfl : r17 = pgCnt (pgU σ 3 (ix d) c) n (nI (ix c)) := hp18
      have hn7 : ix (σ 13 0) = n := pgI_n hI
      have hc7 : nI (ix c) = c := (pgIsC.at (by assumption)).2.symm
      have e9 : sp_pack σ d c = (0, pgCnt (pgU σ 3 (ix d) c) n (nI (ix c)), pgU σ 3 (ix d) c) := by
        simp only [sp_pack, hn7, hc7]; grind
      exact j_x (j_iret B hr rfl dX2_pack_59 (Nat.le_of_ble_eq_true rfl) (Nat.le_of_ble_eq_true rfl) () ⟨by rw [e9], by rw [e9]⟩ (fun H h => pgR.eq h (by rw [e9])))
    · exact j_throw (k := 3) pgTS pgTS2 pgTS3 rfl q_185 q_9 rfl B hl ht (is := 81) (text := "the crate is sealed or with another keeper") (by decide) dX2_pack_37 dX2_pack_40 dX2_pack_41 dX2_pack_43 dX2_pack_46 (Nat.le_of_ble_eq_true rfl) (Nat.le_of_ble_eq_true rfl) (Nat.le_of_ble_eq_true rfl) (Nat.le_of_ble_eq_true rfl) (Nat.le_of_ble_eq_true rfl) (Nat.le_of_ble_eq_true rfl) (by simp only [sp_pack]; grind) (fun H H1 h hq => pgR.more h hq)
set_option maxHeartbeats 4000000 in
set_option maxRecDepth 100000 in
/-- unpack -/
theorem c_X2_unpack (l : Launch) (hl : l.stackTraces = false) (D : va_G) (cD cC cI cZ cL : ClassId) (A : Nat → Prop) (σ : pgSt) (n : Nat) (ad : Nat → Nat) (hI : pgI n σ) (d : Int32) : vx_Met l yX2_unpack (.code yX2_unpack cX2_unpack 4 (some .int) :: pgWd) ({ frames := 7, cells := 2, slots := 12, locals := 104 } : Room) (pgPc D (pgTys cD cC cI cZ cL) A (pgR D cD cC A σ n ad) [.ref (ad 0), .int d]) (va_Qi (fun (r : Int32) (_ : Unit) => (sp_unpack σ d).1 = 0 ∧ r = (sp_unpack σ d).2.1) (fun _ t9 => pgR D cD cC A ((sp_unpack σ d).2.2) n ad t9.heap) A) (pgX A (fun k => (sp_unpack σ d).1 = k ∧ k ≠ 0) (pgR D cD cC A σ n ad)) 2 12 A := by
  refine pg_enterX (own := RX2) (by decide) rfl (Nat.le_of_ble_eq_true rfl) (fun p e s m below meth cc9 B hr hnm ht => ?_)
  refine j_fact (fun H h => pgR.inA h) (fun hIn => ?_)
  refine j_aload_n B dX2_unpack_0 0 rfl rfl ?_
  refine j_iload_n B dX2_unpack_1 1 rfl rfl ?_
  refine j_xVr B 1 [.int d] ht (WdC' := pgR D cD cC A σ n ad)  (c_X2_findDisk l hl D cD cC cI cZ cL A σ n ad hI d) rfl (fun H h => pgR.x h) q_260 q_262 q_p2 q_1 q_263 hdX2_findDisk rfl ⟨Nat.le_of_ble_eq_true rfl, Nat.le_of_ble_eq_true rfl⟩ (Nat.le_of_ble_eq_true rfl) dX2_unpack_2 rfl ⟨Nat.le_of_ble_eq_true rfl, Nat.le_of_ble_eq_true rfl⟩ (Nat.le_of_ble_eq_true rfl) (Nat.le_of_ble_eq_true rfl) (fun k h => by obtain ⟨rfl, h9⟩ := h; simp only [sp_unpack]; grind) (fun H h => h) (fun r1 hp2 => ?_)
  obtain ⟨rfl, hD3⟩ := hp2
  have hj4 := (pgIsD.at hI hD3).1
  refine j_astore_n B (L' := [(2, .ref (ad (13 + ix d))), (0, .ref (ad 0)), (1, .int d)]) dX2_unpack_5 rfl (by decide) rfl ?_
  refine j_aload_n B dX2_unpack_6 0 rfl rfl ?_
  rcases hI.2.2.1 (ix d) hj4 with e7 | ⟨c5, hc6, e7⟩
  · refine j_get B (v := .null) pgX1 rfl (fun H h => pgR.dk h hj4) 4 (by decide) q_213 rfl (congrArg some (pgCv_null e7)) dX2_unpack_7 ?_
    refine j_astore_nN B (L' := [(3, .null), (2, .ref (ad (13 + ix d))), (0, .ref (ad 0)), (1, .int d)]) dX2_unpack_10 rfl (by decide) rfl ?_
    refine j_aload_n B dX2_unpack_11 1 rfl rfl ?_
    refine j_get B (v := .int (σ 5 (ix d))) pgX1 rfl (fun H h => pgR.dk h hj4) 9 (by decide) q_222 rfl rfl dX2_unpack_12 ?_
    refine j_if_ne B 29 dX2_unpack_15 (by decide) (fun h8 => ?_) (fun h8 => ?_)
    · exact j_throw (k := 3) pgTS pgTS2 pgTS3 rfl q_185 q_9 rfl B hl ht (is := 91) (text := "the disk is missing, in no crate or in a sealed one") (by decide) dX2_unpack_29 dX2_unpack_32 dX2_unpack_33 dX2_unpack_35 dX2_unpack_38 (Nat.le_of_ble_eq_true rfl) (Nat.le_of_ble_eq_true rfl) (Nat.le_of_ble_eq_true rfl) (Nat.le_of_ble_eq_true rfl) (Nat.le_of_ble_eq_true rfl) (Nat.le_of_ble_eq_true rfl) (by simp only [sp_unpack]; grind) (fun H H1 h hq => pgR.more h hq)
    · refine j_aload_nN B dX2_unpack_18 0 rfl rfl ?_
      refine j_ifnullN B 29 dX2_unpack_19 (by decide) ?_
      exact j_throw (k := 3) pgTS pgTS2 pgTS3 rfl q_185 q_9 rfl B hl ht (is := 91) (text := "the disk is missing, in no crate or in a sealed one") (by decide) dX2_unpack_29 dX2_unpack_32 dX2_unpack_33 dX2_unpack_35 dX2_unpack_38 (Nat.le_of_ble_eq_true rfl) (Nat.le_of_ble_eq_true rfl) (Nat.le_of_ble_eq_true rfl) (Nat.le_of_ble_eq_true rfl) (Nat.le_of_ble_eq_true rfl) (Nat.le_of_ble_eq_true rfl) (by simp only [sp_unpack]; grind) (fun H H1 h hq => pgR.more h hq)
  · have xe7 := pgCx hc6 e7
    refine j_get B (v := .ref (ad (3 + c5))) pgX1 rfl (fun H h => pgR.dk h hj4) 4 (by decide) q_213 rfl (congrArg some (pgCv_ref hc6 e7)) dX2_unpack_7 ?_
    refine j_astore_n B (L' := [(3, .ref (ad (3 + c5))), (2, .ref (ad (13 + ix d))), (0, .ref (ad 0)), (1, .int d)]) dX2_unpack_10 rfl (by decide) rfl ?_
    refine j_aload_n B dX2_unpack_11 1 rfl rfl ?_
    refine j_get B (v := .int (σ 5 (ix d))) pgX1 rfl (fun H h => pgR.dk h hj4) 9 (by decide) q_222 rfl rfl dX2_unpack_12 ?_
    refine j_if_ne B 29 dX2_unpack_15 (by decide) (fun h9 => ?_) (fun h9 => ?_)
    · exact j_throw (k := 3) pgTS pgTS2 pgTS3 rfl q_185 q_9 rfl B hl ht (is := 91) (text := "the disk is missing, in no crate or in a sealed one") (by decide) dX2_unpack_29 dX2_unpack_32 dX2_unpack_33 dX2_unpack_35 dX2_unpack_38 (Nat.le_of_ble_eq_true rfl) (Nat.le_of_ble_eq_true rfl) (Nat.le_of_ble_eq_true rfl) (Nat.le_of_ble_eq_true rfl) (Nat.le_of_ble_eq_true rfl) (Nat.le_of_ble_eq_true rfl) (by simp only [sp_unpack]; grind) (fun H H1 h hq => pgR.more h hq)
    · refine j_aload_n B dX2_unpack_18 0 rfl rfl ?_
      refine j_ifnull B dX2_unpack_19 ?_
      refine j_aload_n B dX2_unpack_22 0 rfl rfl ?_
      refine j_cVi B (S := Unit) 0 [] (WdC' := fun _ => pgR D cD cC A σ n ad) (fun _ => pgR D cD cC A σ n ad) (c_X0_isSealed l D cD cC cI cZ cL A σ n ad c5 hc6) rfl (fun H h => pgR.cr h hc6) q_290 q_291 q_292 q_2 q_293 hdX0_isSealed rfl ⟨Nat.le_of_ble_eq_true rfl, Nat.le_of_ble_eq_true rfl⟩ (Nat.le_of_ble_eq_true rfl) dX2_unpack_23 rfl ⟨Nat.le_of_ble_eq_true rfl, Nat.le_of_ble_eq_true rfl⟩ (fun _ h => h) (fun _ _ _ _ h => h) (fun _ h => h) (fun _ _ _ _ h _ _ => h) (fun r10 _ hp11 => ?_)
      by_cases h12 : ¬ σ 11 c5 = -1
      · obtain rfl : r10 = 1 := by rw [hp11]; exact if_pos h12
        refine j_if_eq B 39 dX2_unpack_26 (by decide) (fun h13 => (absurd h13 (by decide))) (fun h13 => ?_)
        exact j_throw (k := 3) pgTS pgTS2 pgTS3 rfl q_185 q_9 rfl B hl ht (is := 91) (text := "the disk is missing, in no crate or in a sealed one") (by decide) dX2_unpack_29 dX2_unpack_32 dX2_unpack_33 dX2_unpack_35 dX2_unpack_38 (Nat.le_of_ble_eq_true rfl) (Nat.le_of_ble_eq_true rfl) (Nat.le_of_ble_eq_true rfl) (Nat.le_of_ble_eq_true rfl) (Nat.le_of_ble_eq_true rfl) (Nat.le_of_ble_eq_true rfl) (by simp only [sp_unpack]; grind) (fun H H1 h hq => pgR.more h hq)
      · obtain rfl : r10 = 0 := by rw [hp11]; exact if_neg h12
        refine j_if_eq B 39 dX2_unpack_26 (by decide) (fun h14 => ?_) (fun h14 => (absurd (by decide) h14))
        refine j_aload_n B dX2_unpack_39 1 rfl rfl ?_
        refine j_null B dX2_unpack_40 ?_
        refine j_put B (Wd' := pgR D cD cC A (pgU σ 3 (ix d) (-1)) n ad) pgX1 tyX1 tyX1_ok nmX1 rfl (fun H h => pgR.dk h hj4) 4 (by decide) q_213 rfl rfl rfl rfl rfl (Nat.le_of_ble_eq_true rfl) dX2_unpack_41 (hIn (13 + ix d) (by omega)) (fun H H1 h hc hz ho => pgR.putD h hj4 (by decide) pgDs4n hc ho) ?_
        refine j_aload_n B dX2_unpack_44 0 rfl rfl ?_
        refine j_get B (v := .int (nI c5)) pgX0 rfl (fun H h => pgR.cr h hc6) 0 (by decide) q_31 rfl rfl dX2_unpack_45 ?_
        have e9 : sp_unpack σ d = (0, nI c5, pgU σ 3 (ix d) (-1)) := by
          simp only [sp_unpack]; grind
        exact j_x (j_iret B hr rfl dX2_unpack_48 (Nat.le_of_ble_eq_true rfl) (Nat.le_of_ble_eq_true rfl) () ⟨by rw [e9], by rw [e9]⟩ (fun H h => pgR.eq h (by rw [e9])))
set_option maxHeartbeats 4000000 in
set_option maxRecDepth 100000 in
/-- seal -/
theorem c_X2_seal (l : Launch) (hl : l.stackTraces = false) (D : va_G) (cD cC cI cZ cL : ClassId) (A : Nat → Prop) (σ : pgSt) (n : Nat) (ad : Nat → Nat) (hI : pgI n σ) (c : Int32) : vx_Met l yX2_seal (.code yX2_seal cX2_seal 3 (some .int) :: pgWd) ({ frames := 7, cells := 2, slots := 12, locals := 104 } : Room) (pgPc D (pgTys cD cC cI cZ cL) A (pgR D cD cC A σ n ad) [.ref (ad 0), .int c]) (va_Qi (fun (r : Int32) (_ : Unit) => (sp_seal σ c).1 = 0 ∧ r = (sp_seal σ c).2.1) (fun _ t9 => pgR D cD cC A ((sp_seal σ c).2.2) n ad t9.heap) A) (pgX A (fun k => (sp_seal σ c).1 = k ∧ k ≠ 0) (pgR D cD cC A σ n ad)) 2 12 A := by
  refine pg_enterX (own := RX2) (by decide) rfl (Nat.le_of_ble_eq_true rfl) (fun p e s m below meth cc9 B hr hnm ht => ?_)
  refine j_fact (fun H h => pgR.inA h) (fun hIn => ?_)
  refine j_aload_n B dX2_seal_0 0 rfl rfl ?_
  refine j_iload_n B dX2_seal_1 1 rfl rfl ?_
  refine j_xVr B 1 [.int c] ht (WdC' := pgR D cD cC A σ n ad)  (c_X2_findCrate l hl D cD cC cI cZ cL A σ n ad c) rfl (fun H h => pgR.x h) q_285 q_287 q_p3 q_1 q_288 hdX2_findCrate rfl ⟨Nat.le_of_ble_eq_true rfl, Nat.le_of_ble_eq_true rfl⟩ (Nat.le_of_ble_eq_true rfl) dX2_seal_2 rfl ⟨Nat.le_of_ble_eq_true rfl, Nat.le_of_ble_eq_true rfl⟩ (Nat.le_of_ble_eq_true rfl) (Nat.le_of_ble_eq_true rfl) (fun k h => by obtain ⟨rfl, h9⟩ := h; simp only [sp_seal]; grind) (fun H h => h) (fun r1 hp2 => ?_)
  obtain ⟨rfl, hD3⟩ := hp2
  have hj4 := (pgIsC.at hD3).1
  refine j_astore_n B (L' := [(2, .ref (ad (3 + ix c))), (0, .ref (ad 0)), (1, .int c)]) dX2_seal_5 rfl (by decide) rfl ?_
  refine j_aload_n B dX2_seal_6 0 rfl rfl ?_
  refine j_cVi B (S := Unit) 0 [] (WdC' := fun _ => pgR D cD cC A σ n ad) (fun _ => pgR D cD cC A σ n ad) (c_X0_isSealed l D cD cC cI cZ cL A σ n ad (ix c) hj4) rfl (fun H h => pgR.cr h hj4) q_290 q_291 q_292 q_2 q_293 hdX0_isSealed rfl ⟨Nat.le_of_ble_eq_true rfl, Nat.le_of_ble_eq_true rfl⟩ (Nat.le_of_ble_eq_true rfl) dX2_seal_7 rfl ⟨Nat.le_of_ble_eq_true rfl, Nat.le_of_ble_eq_true rfl⟩ (fun _ h => h) (fun _ _ _ _ h => h) (fun _ h => h) (fun _ _ _ _ h _ _ => h) (fun r5 _ hp6 => ?_)
  by_cases h7 : ¬ σ 11 (ix c) = -1
  · obtain rfl : r5 = 1 := by rw [hp6]; exact if_pos h7
    refine j_if_ne B 22 dX2_seal_10 (by decide) (fun h8 => ?_) (fun h8 => (absurd h8 (by decide)))
    exact j_throw (k := 3) pgTS pgTS2 pgTS3 rfl q_185 q_9 rfl B hl ht (is := 99) (text := "the crate is sealed or no more seals can be made") (by decide) dX2_seal_22 dX2_seal_25 dX2_seal_26 dX2_seal_28 dX2_seal_31 (Nat.le_of_ble_eq_true rfl) (Nat.le_of_ble_eq_true rfl) (Nat.le_of_ble_eq_true rfl) (Nat.le_of_ble_eq_true rfl) (Nat.le_of_ble_eq_true rfl) (Nat.le_of_ble_eq_true rfl) (by simp only [sp_seal]; grind) (fun H H1 h hq => pgR.more h hq)
  · obtain rfl : r5 = 0 := by rw [hp6]; exact if_neg h7
    refine j_if_ne B 22 dX2_seal_10 (by decide) (fun h9 => (absurd (by decide) h9)) (fun h9 => ?_)
    refine j_aload_n B dX2_seal_13 1 rfl rfl ?_
    refine j_get B (v := .int (σ 13 1)) pgX2 rfl (fun H h => pgR.x h) 3 (by decide) q_48 rfl rfl dX2_seal_14 ?_
    refine j_bipush B (v := 100) dX2_seal_17 (by decide) ?_
    refine j_icmp_lt B 32 dX2_seal_19 (by decide) (fun h10 => ?_) (fun h10 => ?_)
    · refine j_aload_n B dX2_seal_32 0 rfl rfl ?_
      refine j_aload_n B dX2_seal_33 1 rfl rfl ?_
      refine j_get B (v := .int (σ 13 1)) pgX2 rfl (fun H h => pgR.x h) 3 (by decide) q_48 rfl rfl dX2_seal_34 ?_
      refine j_put B (Wd' := pgR D cD cC A (pgU σ 11 (ix c) (σ 13 1)) n ad) pgX0 tyX0 tyX0_ok nmX0 rfl (fun H h => pgR.cr h hj4) 2 (by decide) q_34 rfl rfl rfl rfl rfl (Nat.le_of_ble_eq_true rfl) dX2_seal_37 (hIn (3 + ix c) (by omega)) (fun H H1 h hc hz ho => pgR.putK h hj4 (by decide) pgKs2 hc ho) ?_
      refine j_aload_n B dX2_seal_40 0 rfl rfl ?_
      refine j_aload_n B dX2_seal_41 1 rfl rfl ?_
      refine j_aload_n B dX2_seal_42 0 rfl rfl ?_
      refine j_cVi B (S := Unit) 1 [.ref (ad (3 + ix c))] (WdC' := fun _ => pgR D cD cC A (pgU σ 11 (ix c) (σ 13 1)) n ad) (fun _ => pgR D cD cC A (pgU σ 11 (ix c) (σ 13 1)) n ad) (c_X2_countDisksIn l D cD cC cI cZ cL A (pgU σ 11 (ix c) (σ 13 1)) n ad (ix c) hj4 hI.1 (pgCr_ne (by decide) hI.2.2.1)) rfl (fun H h => pgR.x h) q_295 q_297 q_p4 q_1 q_298 hdX2_countDisksIn rfl ⟨Nat.le_of_ble_eq_true rfl, Nat.le_of_ble_eq_true rfl⟩ (Nat.le_of_ble_eq_true rfl) dX2_seal_43 rfl ⟨Nat.le_of_ble_eq_true rfl, Nat.le_of_ble_eq_true rfl⟩ (fun _ h => h) (fun _ _ _ _ h => h) (fun _ h => h) (fun _ _ _ _ h _ _ => h) (fun r11 _ hp12 => ?_)
      obtain rfl : r11 = pgCnt (pgU σ 11 (ix c) (σ 13 1)) n (nI (ix c)) := hp12
      refine j_put B (Wd' := pgR D cD cC A (pgU (pgU σ 11 (ix c) (σ 13 1)) 12 (ix c) (pgCnt (pgU σ 11 (ix c) (σ 13 1)) n (nI (ix c)))) n ad) pgX0 tyX0 tyX0_ok nmX0 rfl (fun H h => pgR.cr h hj4) 3 (by decide) q_35 rfl rfl rfl rfl rfl (Nat.le_of_ble_eq_true rfl) dX2_seal_46 (hIn (3 + ix c) (by omega)) (fun H H1 h hc hz ho => pgR.putK h hj4 (by decide) pgKs3 hc ho) ?_
      refine j_aload_n B dX2_seal_49 1 rfl rfl ?_
      refine j_dup B dX2_seal_50 rfl ?_
      refine j_get B (v := .int (σ 13 1)) pgX2 rfl (fun H h => pgR.x h) 3 (by decide) q_48 rfl rfl dX2_seal_51 ?_
      refine j_iconst B (v := 1) dX2_seal_54 (by decide) ?_
      refine j_iadd B dX2_seal_55 ?_
      refine j_put B (Wd' := pgR D cD cC A (pgU (pgU (pgU σ 11 (ix c) (σ 13 1)) 12 (ix c) (pgCnt (pgU σ 11 (ix c) (σ 13 1)) n (nI (ix c)))) 13 1 ((σ 13 1) + 1)) n ad) pgX2 tyX2 tyX2_ok nmX2 rfl (fun H h => pgR.x h) 3 (by decide) q_48 rfl rfl rfl rfl rfl (Nat.le_of_ble_eq_true rfl) dX2_seal_56 (hIn 0 (by omega)) (fun H H1 h hc hz ho => pgR.putX h pgXs3 hc ho) ?_
      refine j_aload_n B dX2_seal_59 0 rfl rfl ?_
      refine j_get B (v := .int (σ 13 1)) pgX0 rfl (fun H h => pgR.cr h hj4) 2 (by decide) q_34 rfl (by simp [pgU]) dX2_seal_60 ?_
      have hn7 : ix (σ 13 0) = n := pgI_n hI
      have hc7 : nI (ix c) = c := (pgIsC.at (by assumption)).2.symm
      have e9 : sp_seal σ c = (0, σ 13 1, pgU (pgU (pgU σ 11 (ix c) (σ 13 1)) 12 (ix c) (pgCnt (pgU σ 11 (ix c) (σ 13 1)) n (nI (ix c)))) 13 1 ((σ 13 1) + 1)) := by
        simp only [sp_seal, hn7, hc7, pgCnt, pgU_self, pgU_ne (show (3 : Nat) ≠ 11 by decide), pgU_ne (show (11 : Nat) ≠ 12 by decide), pgU_ne (show (11 : Nat) ≠ 13 by decide)]; grind
      exact j_x (j_iret B hr rfl dX2_seal_63 (Nat.le_of_ble_eq_true rfl) (Nat.le_of_ble_eq_true rfl) () ⟨by rw [e9], by rw [e9]⟩ (fun H h => pgR.eq h (by rw [e9])))
    · exact j_throw (k := 3) pgTS pgTS2 pgTS3 rfl q_185 q_9 rfl B hl ht (is := 99) (text := "the crate is sealed or no more seals can be made") (by decide) dX2_seal_22 dX2_seal_25 dX2_seal_26 dX2_seal_28 dX2_seal_31 (Nat.le_of_ble_eq_true rfl) (Nat.le_of_ble_eq_true rfl) (Nat.le_of_ble_eq_true rfl) (Nat.le_of_ble_eq_true rfl) (Nat.le_of_ble_eq_true rfl) (Nat.le_of_ble_eq_true rfl) (by simp only [sp_seal]; grind) (fun H H1 h hq => pgR.more h hq)
set_option maxHeartbeats 4000000 in
set_option maxRecDepth 100000 in
/-- open -/
theorem c_X2_open (l : Launch) (hl : l.stackTraces = false) (D : va_G) (cD cC cI cZ cL : ClassId) (A : Nat → Prop) (σ : pgSt) (n : Nat) (ad : Nat → Nat) (hI : pgI n σ) (c : Int32) (k0 : Int32) : vx_Met l yX2_open (.code yX2_open cX2_open 5 (some .int) :: pgWd) ({ frames := 7, cells := 2, slots := 12, locals := 104 } : Room) (pgPc D (pgTys cD cC cI cZ cL) A (pgR D cD cC A σ n ad) [.ref (ad 0), .int c, .int k0]) (va_Qi (fun (r : Int32) (_ : Unit) => (sp_open σ c k0).1 = 0 ∧ r = (sp_open σ c k0).2.1) (fun _ t9 => pgR D cD cC A ((sp_open σ c k0).2.2) n ad t9.heap) A) (pgX A (fun k => (sp_open σ c k0).1 = k ∧ k ≠ 0) (pgR D cD cC A σ n ad)) 2 12 A := by
  refine pg_enterX (own := RX2) (by decide) rfl (Nat.le_of_ble_eq_true rfl) (fun p e s m below meth cc9 B hr hnm ht => ?_)
  refine j_fact (fun H h => pgR.inA h) (fun hIn => ?_)
  refine j_aload_n B dX2_open_0 0 rfl rfl ?_
  refine j_iload_n B dX2_open_1 1 rfl rfl ?_
  refine j_xVr B 1 [.int c] ht (WdC' := pgR D cD cC A σ n ad)  (c_X2_findCrate l hl D cD cC cI cZ cL A σ n ad c) rfl (fun H h => pgR.x h) q_285 q_287 q_p3 q_1 q_288 hdX2_findCrate rfl ⟨Nat.le_of_ble_eq_true rfl, Nat.le_of_ble_eq_true rfl⟩ (Nat.le_of_ble_eq_true rfl) dX2_open_2 rfl ⟨Nat.le_of_ble_eq_true rfl, Nat.le_of_ble_eq_true rfl⟩ (Nat.le_of_ble_eq_true rfl) (Nat.le_of_ble_eq_true rfl) (fun k h => by obtain ⟨rfl, h9⟩ := h; simp only [sp_open]; grind) (fun H h => h) (fun r1 hp2 => ?_)
  obtain ⟨rfl, hD3⟩ := hp2
  have hj4 := (pgIsC.at hD3).1
  refine j_astore_n B (L' := [(3, .ref (ad (3 + ix c))), (0, .ref (ad 0)), (1, .int c), (2, .int k0)]) dX2_open_5 rfl (by decide) rfl ?_
  refine j_iload_n B dX2_open_6 3 rfl rfl ?_
  refine j_if_lt B 16 dX2_open_7 (by decide) (fun h5 => ?_) (fun h5 => ?_)
  · exact j_throw (k := 2) pgTA pgTA2 pgTA3 rfl q_169 q_8 rfl B hl ht (is := 107) (text := "the count is out of range") (by decide) dX2_open_16 dX2_open_19 dX2_open_20 dX2_open_22 dX2_open_25 (Nat.le_of_ble_eq_true rfl) (Nat.le_of_ble_eq_true rfl) (Nat.le_of_ble_eq_true rfl) (Nat.le_of_ble_eq_true rfl) (Nat.le_of_ble_eq_true rfl) (Nat.le_of_ble_eq_true rfl) (by simp only [sp_open]; grind) (fun H H1 h hq => pgR.more h hq)
  · refine j_iload_n B dX2_open_10 3 rfl rfl ?_
    refine j_bipush B (v := 99) dX2_open_11 (by decide) ?_
    refine j_icmp_le B 26 dX2_open_13 (by decide) (fun h6 => ?_) (fun h6 => ?_)
    · refine j_aload_n B dX2_open_26 0 rfl rfl ?_
      refine j_cVi B (S := Unit) 0 [] (WdC' := fun _ => pgR D cD cC A σ n ad) (fun _ => pgR D cD cC A σ n ad) (c_X0_isSealed l D cD cC cI cZ cL A σ n ad (ix c) hj4) rfl (fun H h => pgR.cr h hj4) q_290 q_291 q_292 q_2 q_293 hdX0_isSealed rfl ⟨Nat.le_of_ble_eq_true rfl, Nat.le_of_ble_eq_true rfl⟩ (Nat.le_of_ble_eq_true rfl) dX2_open_27 rfl ⟨Nat.le_of_ble_eq_true rfl, Nat.le_of_ble_eq_true rfl⟩ (fun _ h => h) (fun _ _ _ _ h => h) (fun _ h => h) (fun _ _ _ _ h _ _ => h) (fun r7 _ hp8 => ?_)
      by_cases h9 : ¬ σ 11 (ix c) = -1
      · obtain rfl : r7 = 1 := by rw [hp8]; exact if_pos h9
        refine j_if_ne B 43 dX2_open_30 (by decide) (fun h10 => ?_) (fun h10 => (absurd h10 (by decide)))
        refine j_iload_n B dX2_open_43 3 rfl rfl ?_
        refine j_aload_n B dX2_open_44 0 rfl rfl ?_
        refine j_get B (v := .int (σ 12 (ix c))) pgX0 rfl (fun H h => pgR.cr h hj4) 3 (by decide) q_35 rfl rfl dX2_open_45 ?_
        refine j_isub B dX2_open_48 ?_
        refine j_istore B (L' := [(4, .int (k0 - (σ 12 (ix c)))), (3, .ref (ad (3 + ix c))), (0, .ref (ad 0)), (1, .int c), (2, .int k0)]) dX2_open_49 (by decide) rfl ?_
        refine j_aload_n B dX2_open_51 1 rfl rfl ?_
        refine j_iconst B (v := (-1)) dX2_open_52 (by decide) ?_
        refine j_put B (Wd' := pgR D cD cC A (pgU σ 11 (ix c) (-1)) n ad) pgX0 tyX0 tyX0_ok nmX0 rfl (fun H h => pgR.cr h hj4) 2 (by decide) q_34 rfl rfl rfl rfl rfl (Nat.le_of_ble_eq_true rfl) dX2_open_53 (hIn (3 + ix c) (by omega)) (fun H H1 h hc hz ho => pgR.putK h hj4 (by decide) pgKs2 hc ho) ?_
        refine j_iload B dX2_open_56 0 rfl ?_
        refine j_if_eq B 71 dX2_open_58 (by decide) (fun h11 => ?_) (fun h11 => ?_)
        · refine j_iload B dX2_open_71 0 rfl ?_
          have e9 : sp_open σ c k0 = (0, (k0 - (σ 12 (ix c))), pgU σ 11 (ix c) (-1)) := by
            simp only [sp_open]; grind
          exact j_x (j_iret B hr rfl dX2_open_73 (Nat.le_of_ble_eq_true rfl) (Nat.le_of_ble_eq_true rfl) () ⟨by rw [e9], by rw [e9]⟩ (fun H h => pgR.eq h (by rw [e9])))
        · refine j_aload_n B dX2_open_61 2 rfl rfl ?_
          refine j_dup B dX2_open_62 rfl ?_
          refine j_get B (v := .int (σ 13 2)) pgX2 rfl (fun H h => pgR.x h) 4 (by decide) q_49 rfl rfl dX2_open_63 ?_
          refine j_iconst B (v := 1) dX2_open_66 (by decide) ?_
          refine j_iadd B dX2_open_67 ?_
          refine j_put B (Wd' := pgR D cD cC A (pgU (pgU σ 11 (ix c) (-1)) 13 2 ((σ 13 2) + 1)) n ad) pgX2 tyX2 tyX2_ok nmX2 rfl (fun H h => pgR.x h) 4 (by decide) q_49 rfl rfl rfl rfl rfl (Nat.le_of_ble_eq_true rfl) dX2_open_68 (hIn 0 (by omega)) (fun H H1 h hc hz ho => pgR.putX h pgXs4 hc ho) ?_
          refine j_iload B dX2_open_71 0 rfl ?_
          have e9 : sp_open σ c k0 = (0, (k0 - (σ 12 (ix c))), pgU (pgU σ 11 (ix c) (-1)) 13 2 ((σ 13 2) + 1)) := by
            simp only [sp_open]; grind
          exact j_x (j_iret B hr rfl dX2_open_73 (Nat.le_of_ble_eq_true rfl) (Nat.le_of_ble_eq_true rfl) () ⟨by rw [e9], by rw [e9]⟩ (fun H h => pgR.eq h (by rw [e9])))
      · obtain rfl : r7 = 0 := by rw [hp8]; exact if_neg h9
        refine j_if_ne B 43 dX2_open_30 (by decide) (fun h12 => (absurd (by decide) h12)) (fun h12 => ?_)
        exact j_throw (k := 3) pgTS pgTS2 pgTS3 rfl q_185 q_9 rfl B hl ht (is := 109) (text := "the crate is open") (by decide) dX2_open_33 dX2_open_36 dX2_open_37 dX2_open_39 dX2_open_42 (Nat.le_of_ble_eq_true rfl) (Nat.le_of_ble_eq_true rfl) (Nat.le_of_ble_eq_true rfl) (Nat.le_of_ble_eq_true rfl) (Nat.le_of_ble_eq_true rfl) (Nat.le_of_ble_eq_true rfl) (by simp only [sp_open]; grind) (fun H H1 h hq => pgR.more h hq)
    · exact j_throw (k := 2) pgTA pgTA2 pgTA3 rfl q_169 q_8 rfl B hl ht (is := 107) (text := "the count is out of range") (by decide) dX2_open_16 dX2_open_19 dX2_open_20 dX2_open_22 dX2_open_25 (Nat.le_of_ble_eq_true rfl) (Nat.le_of_ble_eq_true rfl) (Nat.le_of_ble_eq_true rfl) (Nat.le_of_ble_eq_true rfl) (Nat.le_of_ble_eq_true rfl) (Nat.le_of_ble_eq_true rfl) (by simp only [sp_open]; grind) (fun H H1 h hq => pgR.more h hq)
set_option maxHeartbeats 4000000 in
set_option maxRecDepth 100000 in
/-- carry -/
theorem c_X2_carry (l : Launch) (hl : l.stackTraces = false) (D : va_G) (cD cC cI cZ cL : ClassId) (A : Nat → Prop) (σ : pgSt) (n : Nat) (ad : Nat → Nat) (hI : pgI n σ) (c : Int32) (to : Int32) : vx_Met l yX2_carry (.code yX2_carry cX2_carry 5 (some .int) :: pgWd) ({ frames := 7, cells := 3, slots := 18, locals := 104 } : Room) (pgPc D (pgTys cD cC cI cZ cL) A (pgR D cD cC A σ n ad) [.ref (ad 0), .int c, .int to]) (va_Qi (fun (r : Int32) (_ : Unit) => (sp_carry σ c to).1 = 0 ∧ r = (sp_carry σ c to).2.1) (fun _ t9 => pgR D cD cC A ((sp_carry σ c to).2.2) n ad t9.heap) A) (pgX A (fun k => (sp_carry σ c to).1 = k ∧ k ≠ 0) (pgR D cD cC A σ n ad)) 3 18 A := by
  refine pg_enterX (own := RX2) (by decide) rfl (Nat.le_of_ble_eq_true rfl) (fun p e s m below meth cc9 B hr hnm ht => ?_)
  refine j_fact (fun H h => pgR.inA h) (fun hIn => ?_)
  refine j_aload_n B dX2_carry_0 0 rfl rfl ?_
  refine j_iload_n B dX2_carry_1 1 rfl rfl ?_
  refine j_xVr B 1 [.int c] ht (WdC' := pgR D cD cC A σ n ad)  (c_X2_findCrate l hl D cD cC cI cZ cL A σ n ad c) rfl (fun H h => pgR.x h) q_285 q_287 q_p3 q_1 q_288 hdX2_findCrate rfl ⟨Nat.le_of_ble_eq_true rfl, Nat.le_of_ble_eq_true rfl⟩ (Nat.le_of_ble_eq_true rfl) dX2_carry_2 rfl ⟨Nat.le_of_ble_eq_true rfl, Nat.le_of_ble_eq_true rfl⟩ (Nat.le_of_ble_eq_true rfl) (Nat.le_of_ble_eq_true rfl) (fun k h => by obtain ⟨rfl, h9⟩ := h; simp only [sp_carry]; grind) (fun H h => h) (fun r1 hp2 => ?_)
  obtain ⟨rfl, hD3⟩ := hp2
  have hj4 := (pgIsC.at hD3).1
  refine j_astore_n B (L' := [(3, .ref (ad (3 + ix c))), (0, .ref (ad 0)), (1, .int c), (2, .int to)]) dX2_carry_5 rfl (by decide) rfl ?_
  refine j_iload_n B dX2_carry_6 3 rfl rfl ?_
  refine j_xSv B 1 [.int to] ht (S := Unit) (WdC' := fun _ => pgR D cD cC A σ n ad)  (c_X2_requireKeeper l hl D cD cC cI cZ cL A σ n ad to) q_97 q_98 q_1 q_99 hdX2_requireKeeper rfl ⟨Nat.le_of_ble_eq_true rfl, Nat.le_of_ble_eq_true rfl⟩ (Nat.le_of_ble_eq_true rfl) dX2_carry_7 rfl ⟨Nat.le_of_ble_eq_true rfl, Nat.le_of_ble_eq_true rfl⟩ (Nat.le_of_ble_eq_true rfl) (Nat.le_of_ble_eq_true rfl) (fun k h => by obtain ⟨rfl, h9⟩ := h; simp only [sp_carry]; grind) (fun H h => h) (fun u5 hp6 => ?_)
  refine j_iload_n B dX2_carry_10 3 rfl rfl ?_
  refine j_aload_n B dX2_carry_11 0 rfl rfl ?_
  refine j_get B (v := .int (σ 10 (ix c))) pgX0 rfl (fun H h => pgR.cr h hj4) 1 (by decide) q_32 rfl rfl dX2_carry_12 ?_
  refine j_icmp_ne B 28 dX2_carry_15 (by decide) (fun h7 => ?_) (fun h7 => ?_)
  · refine j_aload_n B dX2_carry_28 0 rfl rfl ?_
    refine j_cVi B (S := Unit) 0 [] (WdC' := fun _ => pgR D cD cC A σ n ad) (fun _ => pgR D cD cC A σ n ad) (c_X0_isSealed l D cD cC cI cZ cL A σ n ad (ix c) hj4) rfl (fun H h => pgR.cr h hj4) q_290 q_291 q_292 q_2 q_293 hdX0_isSealed rfl ⟨Nat.le_of_ble_eq_true rfl, Nat.le_of_ble_eq_true rfl⟩ (Nat.le_of_ble_eq_true rfl) dX2_carry_29 rfl ⟨Nat.le_of_ble_eq_true rfl, Nat.le_of_ble_eq_true rfl⟩ (fun _ h => h) (fun _ _ _ _ h => h) (fun _ h => h) (fun _ _ _ _ h _ _ => h) (fun r8 _ hp9 => ?_)
    by_cases h10 : ¬ σ 11 (ix c) = -1
    · obtain rfl : r8 = 1 := by rw [hp9]; exact if_pos h10
      refine j_if_ne B 53 dX2_carry_32 (by decide) (fun h11 => ?_) (fun h11 => (absurd h11 (by decide)))
      refine j_aload_n B dX2_carry_53 0 rfl rfl ?_
      refine j_get B (v := .int (σ 10 (ix c))) pgX0 rfl (fun H h => pgR.cr h hj4) 1 (by decide) q_32 rfl rfl dX2_carry_54 ?_
      refine j_istore B (L' := [(4, .int (σ 10 (ix c))), (3, .ref (ad (3 + ix c))), (0, .ref (ad 0)), (1, .int c), (2, .int to)]) dX2_carry_57 (by decide) rfl ?_
      refine j_aload_n B dX2_carry_59 1 rfl rfl ?_
      refine j_iload_n B dX2_carry_60 4 rfl rfl ?_
      refine j_put B (Wd' := pgR D cD cC A (pgU σ 10 (ix c) to) n ad) pgX0 tyX0 tyX0_ok nmX0 rfl (fun H h => pgR.cr h hj4) 1 (by decide) q_32 rfl rfl rfl rfl rfl (Nat.le_of_ble_eq_true rfl) dX2_carry_61 (hIn (3 + ix c) (by omega)) (fun H H1 h hc hz ho => pgR.putK h hj4 (by decide) pgKs1 hc ho) ?_
      refine j_aload_n B dX2_carry_64 2 rfl rfl ?_
      refine j_aload_n B dX2_carry_65 1 rfl rfl ?_
      refine j_cVv B (S := Unit) 1 [.ref (ad (3 + ix c))] (WdC' := fun _ => pgR D cD cC A (pgHoN (pgU σ 10 (ix c) to) (nI (ix c)) ((pgU σ 10 (ix c) to) 10 (ix c)) n) n ad) (fun _ => pgR D cD cC A (pgHoN (pgU σ 10 (ix c) to) (nI (ix c)) ((pgU σ 10 (ix c) to) 10 (ix c)) n) n ad) (c_X2_handOverDisksIn l D cD cC cI cZ cL A (pgU σ 10 (ix c) to) n ad (ix c) hj4 hI.1 (pgCr_ne (by decide) hI.2.2.1)) rfl (fun H h => pgR.x h) q_337 q_339 q_p5 q_1 q_340 hdX2_handOverDisksIn rfl ⟨Nat.le_of_ble_eq_true rfl, Nat.le_of_ble_eq_true rfl⟩ (Nat.le_of_ble_eq_true rfl) dX2_carry_66 rfl ⟨Nat.le_of_ble_eq_true rfl, Nat.le_of_ble_eq_true rfl⟩ (fun _ h => h) (fun _ _ _ _ h => h) (fun _ h => h) (fun _ _ _ _ h _ _ => h) (fun _ _ => ?_)
      refine j_iload B dX2_carry_69 0 rfl ?_
      have hn7 : ix (σ 13 0) = n := pgI_n hI
      have hc7 : nI (ix c) = c := (pgIsC.at (by assumption)).2.symm
      have e9 : sp_carry σ c to = (0, σ 10 (ix c), pgHoN (pgU σ 10 (ix c) to) (nI (ix c)) ((pgU σ 10 (ix c) to) 10 (ix c)) n) := by
        simp only [sp_carry, hn7, hc7, pgU_self]; grind
      exact j_x (j_iret B hr rfl dX2_carry_71 (Nat.le_of_ble_eq_true rfl) (Nat.le_of_ble_eq_true rfl) () ⟨by rw [e9], by rw [e9]⟩ (fun H h => pgR.eq h (by rw [e9])))
    · obtain rfl : r8 = 0 := by rw [hp9]; exact if_neg h10
      refine j_if_ne B 53 dX2_carry_32 (by decide) (fun h12 => (absurd (by decide) h12)) (fun h12 => ?_)
      refine j_aload_n B dX2_carry_35 1 rfl rfl ?_
      refine j_aload_n B dX2_carry_36 0 rfl rfl ?_
      refine j_cVi B (S := Unit) 1 [.ref (ad (3 + ix c))] (WdC' := fun _ => pgR D cD cC A σ n ad) (fun _ => pgR D cD cC A σ n ad) (c_X2_countDisksIn l D cD cC cI cZ cL A σ n ad (ix c) hj4 hI.1 hI.2.2.1) rfl (fun H h => pgR.x h) q_295 q_297 q_p4 q_1 q_298 hdX2_countDisksIn rfl ⟨Nat.le_of_ble_eq_true rfl, Nat.le_of_ble_eq_true rfl⟩ (Nat.le_of_ble_eq_true rfl) dX2_carry_37 rfl ⟨Nat.le_of_ble_eq_true rfl, Nat.le_of_ble_eq_true rfl⟩ (fun _ h => h) (fun _ _ _ _ h => h) (fun _ h => h) (fun _ _ _ _ h _ _ => h) (fun r13 _ hp14 => ?_)
      obtain rfl : r13 = pgCnt σ n (nI (ix c)) := hp14
      refine j_if_le B 53 dX2_carry_40 (by decide) (fun h15 => ?_) (fun h15 => ?_)
      · refine j_aload_n B dX2_carry_53 0 rfl rfl ?_
        refine j_get B (v := .int (σ 10 (ix c))) pgX0 rfl (fun H h => pgR.cr h hj4) 1 (by decide) q_32 rfl rfl dX2_carry_54 ?_
        refine j_istore B (L' := [(4, .int (σ 10 (ix c))), (3, .ref (ad (3 + ix c))), (0, .ref (ad 0)), (1, .int c), (2, .int to)]) dX2_carry_57 (by decide) rfl ?_
        refine j_aload_n B dX2_carry_59 1 rfl rfl ?_
        refine j_iload_n B dX2_carry_60 4 rfl rfl ?_
        refine j_put B (Wd' := pgR D cD cC A (pgU σ 10 (ix c) to) n ad) pgX0 tyX0 tyX0_ok nmX0 rfl (fun H h => pgR.cr h hj4) 1 (by decide) q_32 rfl rfl rfl rfl rfl (Nat.le_of_ble_eq_true rfl) dX2_carry_61 (hIn (3 + ix c) (by omega)) (fun H H1 h hc hz ho => pgR.putK h hj4 (by decide) pgKs1 hc ho) ?_
        refine j_aload_n B dX2_carry_64 2 rfl rfl ?_
        refine j_aload_n B dX2_carry_65 1 rfl rfl ?_
        refine j_cVv B (S := Unit) 1 [.ref (ad (3 + ix c))] (WdC' := fun _ => pgR D cD cC A (pgHoN (pgU σ 10 (ix c) to) (nI (ix c)) ((pgU σ 10 (ix c) to) 10 (ix c)) n) n ad) (fun _ => pgR D cD cC A (pgHoN (pgU σ 10 (ix c) to) (nI (ix c)) ((pgU σ 10 (ix c) to) 10 (ix c)) n) n ad) (c_X2_handOverDisksIn l D cD cC cI cZ cL A (pgU σ 10 (ix c) to) n ad (ix c) hj4 hI.1 (pgCr_ne (by decide) hI.2.2.1)) rfl (fun H h => pgR.x h) q_337 q_339 q_p5 q_1 q_340 hdX2_handOverDisksIn rfl ⟨Nat.le_of_ble_eq_true rfl, Nat.le_of_ble_eq_true rfl⟩ (Nat.le_of_ble_eq_true rfl) dX2_carry_66 rfl ⟨Nat.le_of_ble_eq_true rfl, Nat.le_of_ble_eq_true rfl⟩ (fun _ h => h) (fun _ _ _ _ h => h) (fun _ h => h) (fun _ _ _ _ h _ _ => h) (fun _ _ => ?_)
        refine j_iload B dX2_carry_69 0 rfl ?_
        have hn7 : ix (σ 13 0) = n := pgI_n hI
        have hc7 : nI (ix c) = c := (pgIsC.at (by assumption)).2.symm
        have e9 : sp_carry σ c to = (0, σ 10 (ix c), pgHoN (pgU σ 10 (ix c) to) (nI (ix c)) ((pgU σ 10 (ix c) to) 10 (ix c)) n) := by
          simp only [sp_carry, hn7, hc7, pgU_self]; grind
        exact j_x (j_iret B hr rfl dX2_carry_71 (Nat.le_of_ble_eq_true rfl) (Nat.le_of_ble_eq_true rfl) () ⟨by rw [e9], by rw [e9]⟩ (fun H h => pgR.eq h (by rw [e9])))
      · exact j_throw (k := 3) pgTS pgTS2 pgTS3 rfl q_185 q_9 rfl B hl ht (is := 116) (text := "the crate is open and has disks") (by decide) dX2_carry_43 dX2_carry_46 dX2_carry_47 dX2_carry_49 dX2_carry_52 (Nat.le_of_ble_eq_true rfl) (Nat.le_of_ble_eq_true rfl) (Nat.le_of_ble_eq_true rfl) (Nat.le_of_ble_eq_true rfl) (Nat.le_of_ble_eq_true rfl) (Nat.le_of_ble_eq_true rfl) (by have hn7 := pgI_n hI; have hc7 : nI (ix c) = c := (pgIsC.at (by assumption)).2.symm; simp only [hc7] at *; simp only [sp_carry, hn7]; grind) (fun H H1 h hq => pgR.more h hq)
  · exact j_throw (k := 2) pgTA pgTA2 pgTA3 rfl q_169 q_8 rfl B hl ht (is := 114) (text := "the crate is carried to its keeper") (by decide) dX2_carry_18 dX2_carry_21 dX2_carry_22 dX2_carry_24 dX2_carry_27 (Nat.le_of_ble_eq_true rfl) (Nat.le_of_ble_eq_true rfl) (Nat.le_of_ble_eq_true rfl) (Nat.le_of_ble_eq_true rfl) (Nat.le_of_ble_eq_true rfl) (Nat.le_of_ble_eq_true rfl) (by have hn7 := pgI_n hI; have hc7 : nI (ix c) = c := (pgIsC.at (by assumption)).2.symm; simp only [hc7] at *; simp only [sp_carry, hn7]; grind) (fun H H1 h hq => pgR.more h hq)
set_option maxHeartbeats 4000000 in
set_option maxRecDepth 100000 in
/-- wipe -/
theorem c_X2_wipe (l : Launch) (hl : l.stackTraces = false) (D : va_G) (cD cC cI cZ cL : ClassId) (A : Nat → Prop) (σ : pgSt) (n : Nat) (ad : Nat → Nat) (hI : pgI n σ) (d : Int32) (way : Int32) (w : Int32) : vx_Met l yX2_wipe (.code yX2_wipe cX2_wipe 6 (some .int) :: pgWd) ({ frames := 7, cells := 5, slots := 30, locals := 104 } : Room) (pgPc D (pgTys cD cC cI cZ cL) A (pgR D cD cC A σ n ad) [.ref (ad 0), .int d, .int way, .int w]) (va_Qi (fun (r : Int32) (_ : Unit) => (sp_wipe σ d way w).1 = 0 ∧ r = (sp_wipe σ d way w).2.1) (fun _ t9 => pgR D cD cC A ((sp_wipe σ d way w).2.2) n ad t9.heap) A) (pgX A (fun k => (sp_wipe σ d way w).1 = k ∧ k ≠ 0) (pgR D cD cC A σ n ad)) 5 30 A := by
  refine pg_enterX (own := RX2) (by decide) rfl (Nat.le_of_ble_eq_true rfl) (fun p e s m below meth cc9 B hr hnm ht => ?_)
  refine j_fact (fun H h => pgR.inA h) (fun hIn => ?_)
  refine j_aload_n B dX2_wipe_0 0 rfl rfl ?_
  refine j_iload_n B dX2_wipe_1 1 rfl rfl ?_
  refine j_xVr B 1 [.int d] ht (WdC' := pgR D cD cC A σ n ad)  (c_X2_findDisk l hl D cD cC cI cZ cL A σ n ad hI d) rfl (fun H h => pgR.x h) q_260 q_262 q_p2 q_1 q_263 hdX2_findDisk rfl ⟨Nat.le_of_ble_eq_true rfl, Nat.le_of_ble_eq_true rfl⟩ (Nat.le_of_ble_eq_true rfl) dX2_wipe_2 rfl ⟨Nat.le_of_ble_eq_true rfl, Nat.le_of_ble_eq_true rfl⟩ (Nat.le_of_ble_eq_true rfl) (Nat.le_of_ble_eq_true rfl) (fun k h => by obtain ⟨rfl, h9⟩ := h; simp only [sp_wipe]; grind) (fun H h => h) (fun r1 hp2 => ?_)
  obtain ⟨rfl, hD3⟩ := hp2
  have hj4 := (pgIsD.at hI hD3).1
  refine j_astore B (L' := [(4, .ref (ad (13 + ix d))), (0, .ref (ad 0)), (1, .int d), (2, .int way), (3, .int w)]) dX2_wipe_5 (by decide) rfl ?_
  refine j_iload_n B dX2_wipe_7 4 rfl rfl ?_
  refine j_xSv B 1 [.int w] ht (S := Unit) (WdC' := fun _ => pgR D cD cC A σ n ad)  (c_X2_requireKeeper l hl D cD cC cI cZ cL A σ n ad w) q_97 q_98 q_1 q_99 hdX2_requireKeeper rfl ⟨Nat.le_of_ble_eq_true rfl, Nat.le_of_ble_eq_true rfl⟩ (Nat.le_of_ble_eq_true rfl) dX2_wipe_8 rfl ⟨Nat.le_of_ble_eq_true rfl, Nat.le_of_ble_eq_true rfl⟩ (Nat.le_of_ble_eq_true rfl) (Nat.le_of_ble_eq_true rfl) (fun k h => by obtain ⟨rfl, h9⟩ := h; simp only [sp_wipe]; grind) (fun H h => h) (fun u5 hp6 => ?_)
  refine j_iload_n B dX2_wipe_11 3 rfl rfl ?_
  refine j_if_lt B 20 dX2_wipe_12 (by decide) (fun h7 => ?_) (fun h7 => ?_)
  · exact j_throw (k := 2) pgTA pgTA2 pgTA3 rfl q_169 q_8 rfl B hl ht (is := 122) (text := "there is no such way") (by decide) dX2_wipe_20 dX2_wipe_23 dX2_wipe_24 dX2_wipe_26 dX2_wipe_29 (Nat.le_of_ble_eq_true rfl) (Nat.le_of_ble_eq_true rfl) (Nat.le_of_ble_eq_true rfl) (Nat.le_of_ble_eq_true rfl) (Nat.le_of_ble_eq_true rfl) (Nat.le_of_ble_eq_true rfl) (by simp only [sp_wipe]; grind) (fun H H1 h hq => pgR.more h hq)
  · refine j_iload_n B dX2_wipe_15 3 rfl rfl ?_
    refine j_iconst B (v := 3) dX2_wipe_16 (by decide) ?_
    refine j_icmp_lt B 30 dX2_wipe_17 (by decide) (fun h8 => ?_) (fun h8 => ?_)
    · refine j_aload B dX2_wipe_30 0 rfl ?_
      refine j_iload_n B dX2_wipe_32 4 rfl rfl ?_
      refine j_xSv B 2 [.ref (ad (13 + ix d)), .int w] ht (S := Unit) (WdC' := fun _ => pgR D cD cC A σ n ad)  (c_X2_requireWitnessIsNotKeeper l hl D cD cC cI cZ cL A σ n ad (ix d) hj4 w) q_349 q_350 q_1 q_351 hdX2_requireWitnessIsNotKeeper rfl ⟨Nat.le_of_ble_eq_true rfl, Nat.le_of_ble_eq_true rfl⟩ (Nat.le_of_ble_eq_true rfl) dX2_wipe_33 rfl ⟨Nat.le_of_ble_eq_true rfl, Nat.le_of_ble_eq_true rfl⟩ (Nat.le_of_ble_eq_true rfl) (Nat.le_of_ble_eq_true rfl) (fun k h => by obtain ⟨rfl, h9⟩ := h; simp only [sp_wipe]; grind) (fun H h => h) (fun u9 hp10 => ?_)
      refine j_aload B dX2_wipe_36 0 rfl ?_
      refine j_xSv B 1 [.ref (ad (13 + ix d))] ht (S := Unit) (WdC' := fun _ => pgR D cD cC A σ n ad)  (c_X2_requireWithinReach l hl D cD cC cI cZ cL A σ n ad (ix d) hj4 hI.2.2.1) q_353 q_354 q_1 q_355 hdX2_requireWithinReach rfl ⟨Nat.le_of_ble_eq_true rfl, Nat.le_of_ble_eq_true rfl⟩ (Nat.le_of_ble_eq_true rfl) dX2_wipe_38 rfl ⟨Nat.le_of_ble_eq_true rfl, Nat.le_of_ble_eq_true rfl⟩ (Nat.le_of_ble_eq_true rfl) (Nat.le_of_ble_eq_true rfl) (fun k h => by obtain ⟨rfl, h9⟩ := h; simp only [sp_wipe]; grind) (fun H h => h) (fun u11 hp12 => ?_)
      refine j_aload B dX2_wipe_41 0 rfl ?_
      refine j_get B (v := .int (σ 4 (ix d))) pgX1 rfl (fun H h => pgR.dk h hj4) 6 (by decide) q_217 rfl rfl dX2_wipe_43 ?_
      refine j_iconst B (v := 1) dX2_wipe_46 (by decide) ?_
      refine j_icmp_eq B 59 dX2_wipe_47 (by decide) (fun h13 => ?_) (fun h13 => ?_)
      · exact j_throw (k := 3) pgTS pgTS2 pgTS3 rfl q_185 q_9 rfl B hl ht (is := 133) (text := "the disk is wiped or broken") (by decide) dX2_wipe_59 dX2_wipe_62 dX2_wipe_63 dX2_wipe_65 dX2_wipe_68 (Nat.le_of_ble_eq_true rfl) (Nat.le_of_ble_eq_true rfl) (Nat.le_of_ble_eq_true rfl) (Nat.le_of_ble_eq_true rfl) (Nat.le_of_ble_eq_true rfl) (Nat.le_of_ble_eq_true rfl) (by simp only [sp_wipe]; grind) (fun H H1 h hq => pgR.more h hq)
      · refine j_aload B dX2_wipe_50 0 rfl ?_
        refine j_get B (v := .int (σ 4 (ix d))) pgX1 rfl (fun H h => pgR.dk h hj4) 6 (by decide) q_217 rfl rfl dX2_wipe_52 ?_
        refine j_iconst B (v := 3) dX2_wipe_55 (by decide) ?_
        refine j_icmp_ne B 69 dX2_wipe_56 (by decide) (fun h14 => ?_) (fun h14 => ?_)
        · refine j_iload_n B dX2_wipe_69 3 rfl rfl ?_
          refine j_aload B dX2_wipe_70 0 rfl ?_
          refine j_get B (v := .int (σ 0 (ix d))) pgX1 rfl (fun H h => pgR.dk h hj4) 0 (by decide) q_207 rfl rfl dX2_wipe_72 ?_
          refine j_icmp_ne B 91 dX2_wipe_75 (by decide) (fun h15 => ?_) (fun h15 => ?_)
          · refine j_iconst B (v := 0) dX2_wipe_91 (by decide) ?_
            refine j_istore B (L' := [(5, .int 0), (4, .ref (ad (13 + ix d))), (0, .ref (ad 0)), (1, .int d), (2, .int way), (3, .int w)]) dX2_wipe_92 (by decide) rfl ?_
            refine j_aload B dX2_wipe_94 1 rfl ?_
            refine j_iload B dX2_wipe_96 0 rfl ?_
            refine j_if_eq B 105 dX2_wipe_98 (by decide) (fun h16 => ?_) (fun h16 => (absurd (by decide) h16))
            refine j_iconst B (v := 2) dX2_wipe_105 (by decide) ?_
            refine j_put B (Wd' := pgR D cD cC A (pgU σ 4 (ix d) 2) n ad) pgX1 tyX1 tyX1_ok nmX1 rfl (fun H h => pgR.dk h hj4) 6 (by decide) q_217 rfl rfl rfl rfl rfl (Nat.le_of_ble_eq_true rfl) dX2_wipe_106 (hIn (13 + ix d) (by omega)) (fun H H1 h hc hz ho => pgR.putD h hj4 (by decide) pgDs6 hc ho) ?_
            refine j_aload B dX2_wipe_109 1 rfl ?_
            refine j_aload B dX2_wipe_111 1 rfl ?_
            refine j_get B (v := .int (σ 2 (ix d))) pgX1 rfl (fun H h => pgR.dk h hj4) 2 (by decide) q_210 rfl rfl dX2_wipe_113 ?_
            refine j_put B (Wd' := pgR D cD cC A (pgU (pgU σ 4 (ix d) 2) 7 (ix d) (σ 2 (ix d))) n ad) pgX1 tyX1 tyX1_ok nmX1 rfl (fun H h => pgR.dk h hj4) 7 (by decide) q_219 rfl rfl rfl rfl rfl (Nat.le_of_ble_eq_true rfl) dX2_wipe_116 (hIn (13 + ix d) (by omega)) (fun H H1 h hc hz ho => pgR.putD h hj4 (by decide) pgDs7 hc ho) ?_
            refine j_aload B dX2_wipe_119 1 rfl ?_
            refine j_iconst B (v := 0) dX2_wipe_121 (by decide) ?_
            refine j_put B (Wd' := pgR D cD cC A (pgU (pgU (pgU σ 4 (ix d) 2) 7 (ix d) (σ 2 (ix d))) 8 (ix d) 0) n ad) pgX1 tyX1 tyX1_ok nmX1 rfl (fun H h => pgR.dk h hj4) 8 (by decide) q_221 rfl rfl rfl rfl rfl (Nat.le_of_ble_eq_true rfl) dX2_wipe_122 (hIn (13 + ix d) (by omega)) (fun H H1 h hc hz ho => pgR.putD h hj4 (by decide) pgDs8 hc ho) ?_
            refine j_aload B dX2_wipe_125 1 rfl ?_
            refine j_get B (v := .int 2) pgX1 rfl (fun H h => pgR.dk h hj4) 6 (by decide) q_217 rfl (by simp [pgU]) dX2_wipe_127 ?_
            have e9 : sp_wipe σ d way w = (0, 2, pgU (pgU (pgU σ 4 (ix d) 2) 7 (ix d) (σ 2 (ix d))) 8 (ix d) 0) := by
              simp only [sp_wipe, pgU_self, pgU_ne (show (4 : Nat) ≠ 7 by decide), pgU_ne (show (4 : Nat) ≠ 8 by decide)]; grind
            exact j_x (j_iret B hr rfl dX2_wipe_130 (Nat.le_of_ble_eq_true rfl) (Nat.le_of_ble_eq_true rfl) () ⟨by rw [e9], by rw [e9]⟩ (fun H h => pgR.eq h (by rw [e9])))
          · refine j_aload B dX2_wipe_78 0 rfl ?_
            refine j_get B (v := .int (σ 1 (ix d))) pgX1 rfl (fun H h => pgR.dk h hj4) 1 (by decide) q_209 rfl rfl dX2_wipe_80 ?_
            refine j_iconst B (v := 3) dX2_wipe_83 (by decide) ?_
            refine j_icmp_ge B 91 dX2_wipe_84 (by decide) (fun h17 => ?_) (fun h17 => ?_)
            · refine j_iconst B (v := 0) dX2_wipe_91 (by decide) ?_
              refine j_istore B (L' := [(5, .int 0), (4, .ref (ad (13 + ix d))), (0, .ref (ad 0)), (1, .int d), (2, .int way), (3, .int w)]) dX2_wipe_92 (by decide) rfl ?_
              refine j_aload B dX2_wipe_94 1 rfl ?_
              refine j_iload B dX2_wipe_96 0 rfl ?_
              refine j_if_eq B 105 dX2_wipe_98 (by decide) (fun h18 => ?_) (fun h18 => (absurd (by decide) h18))
              refine j_iconst B (v := 2) dX2_wipe_105 (by decide) ?_
              refine j_put B (Wd' := pgR D cD cC A (pgU σ 4 (ix d) 2) n ad) pgX1 tyX1 tyX1_ok nmX1 rfl (fun H h => pgR.dk h hj4) 6 (by decide) q_217 rfl rfl rfl rfl rfl (Nat.le_of_ble_eq_true rfl) dX2_wipe_106 (hIn (13 + ix d) (by omega)) (fun H H1 h hc hz ho => pgR.putD h hj4 (by decide) pgDs6 hc ho) ?_
              refine j_aload B dX2_wipe_109 1 rfl ?_
              refine j_aload B dX2_wipe_111 1 rfl ?_
              refine j_get B (v := .int (σ 2 (ix d))) pgX1 rfl (fun H h => pgR.dk h hj4) 2 (by decide) q_210 rfl rfl dX2_wipe_113 ?_
              refine j_put B (Wd' := pgR D cD cC A (pgU (pgU σ 4 (ix d) 2) 7 (ix d) (σ 2 (ix d))) n ad) pgX1 tyX1 tyX1_ok nmX1 rfl (fun H h => pgR.dk h hj4) 7 (by decide) q_219 rfl rfl rfl rfl rfl (Nat.le_of_ble_eq_true rfl) dX2_wipe_116 (hIn (13 + ix d) (by omega)) (fun H H1 h hc hz ho => pgR.putD h hj4 (by decide) pgDs7 hc ho) ?_
              refine j_aload B dX2_wipe_119 1 rfl ?_
              refine j_iconst B (v := 0) dX2_wipe_121 (by decide) ?_
              refine j_put B (Wd' := pgR D cD cC A (pgU (pgU (pgU σ 4 (ix d) 2) 7 (ix d) (σ 2 (ix d))) 8 (ix d) 0) n ad) pgX1 tyX1 tyX1_ok nmX1 rfl (fun H h => pgR.dk h hj4) 8 (by decide) q_221 rfl rfl rfl rfl rfl (Nat.le_of_ble_eq_true rfl) dX2_wipe_122 (hIn (13 + ix d) (by omega)) (fun H H1 h hc hz ho => pgR.putD h hj4 (by decide) pgDs8 hc ho) ?_
              refine j_aload B dX2_wipe_125 1 rfl ?_
              refine j_get B (v := .int 2) pgX1 rfl (fun H h => pgR.dk h hj4) 6 (by decide) q_217 rfl (by simp [pgU]) dX2_wipe_127 ?_
              have e9 : sp_wipe σ d way w = (0, 2, pgU (pgU (pgU σ 4 (ix d) 2) 7 (ix d) (σ 2 (ix d))) 8 (ix d) 0) := by
                simp only [sp_wipe, pgU_self, pgU_ne (show (4 : Nat) ≠ 7 by decide), pgU_ne (show (4 : Nat) ≠ 8 by decide)]; grind
              exact j_x (j_iret B hr rfl dX2_wipe_130 (Nat.le_of_ble_eq_true rfl) (Nat.le_of_ble_eq_true rfl) () ⟨by rw [e9], by rw [e9]⟩ (fun H h => pgR.eq h (by rw [e9])))
            · refine j_iconst B (v := 1) dX2_wipe_87 (by decide) ?_
              refine j_goto B 92 dX2_wipe_88 (by decide) ?_
              refine j_istore B (L' := [(5, .int 1), (4, .ref (ad (13 + ix d))), (0, .ref (ad 0)), (1, .int d), (2, .int way), (3, .int w)]) dX2_wipe_92 (by decide) rfl ?_
              refine j_aload B dX2_wipe_94 1 rfl ?_
              refine j_iload B dX2_wipe_96 0 rfl ?_
              refine j_if_eq B 105 dX2_wipe_98 (by decide) (fun h19 => (absurd h19 (by decide))) (fun h19 => ?_)
              refine j_iconst B (v := 1) dX2_wipe_101 (by decide) ?_
              refine j_goto B 106 dX2_wipe_102 (by decide) ?_
              refine j_put B (Wd' := pgR D cD cC A (pgU σ 4 (ix d) 1) n ad) pgX1 tyX1 tyX1_ok nmX1 rfl (fun H h => pgR.dk h hj4) 6 (by decide) q_217 rfl rfl rfl rfl rfl (Nat.le_of_ble_eq_true rfl) dX2_wipe_106 (hIn (13 + ix d) (by omega)) (fun H H1 h hc hz ho => pgR.putD h hj4 (by decide) pgDs6 hc ho) ?_
              refine j_aload B dX2_wipe_109 1 rfl ?_
              refine j_aload B dX2_wipe_111 1 rfl ?_
              refine j_get B (v := .int (σ 2 (ix d))) pgX1 rfl (fun H h => pgR.dk h hj4) 2 (by decide) q_210 rfl rfl dX2_wipe_113 ?_
              refine j_put B (Wd' := pgR D cD cC A (pgU (pgU σ 4 (ix d) 1) 7 (ix d) (σ 2 (ix d))) n ad) pgX1 tyX1 tyX1_ok nmX1 rfl (fun H h => pgR.dk h hj4) 7 (by decide) q_219 rfl rfl rfl rfl rfl (Nat.le_of_ble_eq_true rfl) dX2_wipe_116 (hIn (13 + ix d) (by omega)) (fun H H1 h hc hz ho => pgR.putD h hj4 (by decide) pgDs7 hc ho) ?_
              refine j_aload B dX2_wipe_119 1 rfl ?_
              refine j_iconst B (v := 0) dX2_wipe_121 (by decide) ?_
              refine j_put B (Wd' := pgR D cD cC A (pgU (pgU (pgU σ 4 (ix d) 1) 7 (ix d) (σ 2 (ix d))) 8 (ix d) 0) n ad) pgX1 tyX1 tyX1_ok nmX1 rfl (fun H h => pgR.dk h hj4) 8 (by decide) q_221 rfl rfl rfl rfl rfl (Nat.le_of_ble_eq_true rfl) dX2_wipe_122 (hIn (13 + ix d) (by omega)) (fun H H1 h hc hz ho => pgR.putD h hj4 (by decide) pgDs8 hc ho) ?_
              refine j_aload B dX2_wipe_125 1 rfl ?_
              refine j_get B (v := .int 1) pgX1 rfl (fun H h => pgR.dk h hj4) 6 (by decide) q_217 rfl (by simp [pgU]) dX2_wipe_127 ?_
              have e9 : sp_wipe σ d way w = (0, 1, pgU (pgU (pgU σ 4 (ix d) 1) 7 (ix d) (σ 2 (ix d))) 8 (ix d) 0) := by
                simp only [sp_wipe, pgU_self, pgU_ne (show (4 : Nat) ≠ 7 by decide), pgU_ne (show (4 : Nat) ≠ 8 by decide)]; grind
              exact j_x (j_iret B hr rfl dX2_wipe_130 (Nat.le_of_ble_eq_true rfl) (Nat.le_of_ble_eq_true rfl) () ⟨by rw [e9], by rw [e9]⟩ (fun H h => pgR.eq h (by rw [e9])))
        · exact j_throw (k := 3) pgTS pgTS2 pgTS3 rfl q_185 q_9 rfl B hl ht (is := 133) (text := "the disk is wiped or broken") (by decide) dX2_wipe_59 dX2_wipe_62 dX2_wipe_63 dX2_wipe_65 dX2_wipe_68 (Nat.le_of_ble_eq_true rfl) (Nat.le_of_ble_eq_true rfl) (Nat.le_of_ble_eq_true rfl) (Nat.le_of_ble_eq_true rfl) (Nat.le_of_ble_eq_true rfl) (Nat.le_of_ble_eq_true rfl) (by simp only [sp_wipe]; grind) (fun H H1 h hq => pgR.more h hq)
    · exact j_throw (k := 2) pgTA pgTA2 pgTA3 rfl q_169 q_8 rfl B hl ht (is := 122) (text := "there is no such way") (by decide) dX2_wipe_20 dX2_wipe_23 dX2_wipe_24 dX2_wipe_26 dX2_wipe_29 (Nat.le_of_ble_eq_true rfl) (Nat.le_of_ble_eq_true rfl) (Nat.le_of_ble_eq_true rfl) (Nat.le_of_ble_eq_true rfl) (Nat.le_of_ble_eq_true rfl) (Nat.le_of_ble_eq_true rfl) (by simp only [sp_wipe]; grind) (fun H H1 h hq => pgR.more h hq)
set_option maxHeartbeats 4000000 in
set_option maxRecDepth 100000 in
/-- smash -/
theorem c_X2_smash (l : Launch) (hl : l.stackTraces = false) (D : va_G) (cD cC cI cZ cL : ClassId) (A : Nat → Prop) (σ : pgSt) (n : Nat) (ad : Nat → Nat) (hI : pgI n σ) (d : Int32) (w : Int32) : vx_Met l yX2_smash (.code yX2_smash cX2_smash 5 (some .int) :: pgWd) ({ frames := 7, cells := 5, slots := 30, locals := 104 } : Room) (pgPc D (pgTys cD cC cI cZ cL) A (pgR D cD cC A σ n ad) [.ref (ad 0), .int d, .int w]) (va_Qi (fun (r : Int32) (_ : Unit) => (sp_smash σ d w).1 = 0 ∧ r = (sp_smash σ d w).2.1) (fun _ t9 => pgR D cD cC A ((sp_smash σ d w).2.2) n ad t9.heap) A) (pgX A (fun k => (sp_smash σ d w).1 = k ∧ k ≠ 0) (pgR D cD cC A σ n ad)) 5 30 A := by
  refine pg_enterX (own := RX2) (by decide) rfl (Nat.le_of_ble_eq_true rfl) (fun p e s m below meth cc9 B hr hnm ht => ?_)
  refine j_fact (fun H h => pgR.inA h) (fun hIn => ?_)
  refine j_aload_n B dX2_smash_0 0 rfl rfl ?_
  refine j_iload_n B dX2_smash_1 1 rfl rfl ?_
  refine j_xVr B 1 [.int d] ht (WdC' := pgR D cD cC A σ n ad)  (c_X2_findDisk l hl D cD cC cI cZ cL A σ n ad hI d) rfl (fun H h => pgR.x h) q_260 q_262 q_p2 q_1 q_263 hdX2_findDisk rfl ⟨Nat.le_of_ble_eq_true rfl, Nat.le_of_ble_eq_true rfl⟩ (Nat.le_of_ble_eq_true rfl) dX2_smash_2 rfl ⟨Nat.le_of_ble_eq_true rfl, Nat.le_of_ble_eq_true rfl⟩ (Nat.le_of_ble_eq_true rfl) (Nat.le_of_ble_eq_true rfl) (fun k h => by obtain ⟨rfl, h9⟩ := h; simp only [sp_smash]; grind) (fun H h => h) (fun r1 hp2 => ?_)
  obtain ⟨rfl, hD3⟩ := hp2
  have hj4 := (pgIsD.at hI hD3).1
  refine j_astore_n B (L' := [(3, .ref (ad (13 + ix d))), (0, .ref (ad 0)), (1, .int d), (2, .int w)]) dX2_smash_5 rfl (by decide) rfl ?_
  refine j_iload_n B dX2_smash_6 3 rfl rfl ?_
  refine j_xSv B 1 [.int w] ht (S := Unit) (WdC' := fun _ => pgR D cD cC A σ n ad)  (c_X2_requireKeeper l hl D cD cC cI cZ cL A σ n ad w) q_97 q_98 q_1 q_99 hdX2_requireKeeper rfl ⟨Nat.le_of_ble_eq_true rfl, Nat.le_of_ble_eq_true rfl⟩ (Nat.le_of_ble_eq_true rfl) dX2_smash_7 rfl ⟨Nat.le_of_ble_eq_true rfl, Nat.le_of_ble_eq_true rfl⟩ (Nat.le_of_ble_eq_true rfl) (Nat.le_of_ble_eq_true rfl) (fun k h => by obtain ⟨rfl, h9⟩ := h; simp only [sp_smash]; grind) (fun H h => h) (fun u5 hp6 => ?_)
  refine j_aload_n B dX2_smash_10 0 rfl rfl ?_
  refine j_iload_n B dX2_smash_11 3 rfl rfl ?_
  refine j_xSv B 2 [.ref (ad (13 + ix d)), .int w] ht (S := Unit) (WdC' := fun _ => pgR D cD cC A σ n ad)  (c_X2_requireWitnessIsNotKeeper l hl D cD cC cI cZ cL A σ n ad (ix d) hj4 w) q_349 q_350 q_1 q_351 hdX2_requireWitnessIsNotKeeper rfl ⟨Nat.le_of_ble_eq_true rfl, Nat.le_of_ble_eq_true rfl⟩ (Nat.le_of_ble_eq_true rfl) dX2_smash_12 rfl ⟨Nat.le_of_ble_eq_true rfl, Nat.le_of_ble_eq_true rfl⟩ (Nat.le_of_ble_eq_true rfl) (Nat.le_of_ble_eq_true rfl) (fun k h => by obtain ⟨rfl, h9⟩ := h; simp only [sp_smash]; grind) (fun H h => h) (fun u7 hp8 => ?_)
  refine j_aload_n B dX2_smash_15 0 rfl rfl ?_
  refine j_xSv B 1 [.ref (ad (13 + ix d))] ht (S := Unit) (WdC' := fun _ => pgR D cD cC A σ n ad)  (c_X2_requireWithinReach l hl D cD cC cI cZ cL A σ n ad (ix d) hj4 hI.2.2.1) q_353 q_354 q_1 q_355 hdX2_requireWithinReach rfl ⟨Nat.le_of_ble_eq_true rfl, Nat.le_of_ble_eq_true rfl⟩ (Nat.le_of_ble_eq_true rfl) dX2_smash_16 rfl ⟨Nat.le_of_ble_eq_true rfl, Nat.le_of_ble_eq_true rfl⟩ (Nat.le_of_ble_eq_true rfl) (Nat.le_of_ble_eq_true rfl) (fun k h => by obtain ⟨rfl, h9⟩ := h; simp only [sp_smash]; grind) (fun H h => h) (fun u9 hp10 => ?_)
  refine j_aload_n B dX2_smash_19 0 rfl rfl ?_
  refine j_get B (v := .int (σ 4 (ix d))) pgX1 rfl (fun H h => pgR.dk h hj4) 6 (by decide) q_217 rfl rfl dX2_smash_20 ?_
  refine j_iconst B (v := 3) dX2_smash_23 (by decide) ?_
  refine j_icmp_ne B 37 dX2_smash_24 (by decide) (fun h11 => ?_) (fun h11 => ?_)
  · refine j_aload_n B dX2_smash_37 0 rfl rfl ?_
    refine j_get B (v := .int (σ 4 (ix d))) pgX1 rfl (fun H h => pgR.dk h hj4) 6 (by decide) q_217 rfl rfl dX2_smash_38 ?_
    refine j_istore B (L' := [(4, .int (σ 4 (ix d))), (3, .ref (ad (13 + ix d))), (0, .ref (ad 0)), (1, .int d), (2, .int w)]) dX2_smash_41 (by decide) rfl ?_
    refine j_aload_n B dX2_smash_43 1 rfl rfl ?_
    refine j_iconst B (v := 3) dX2_smash_44 (by decide) ?_
    refine j_put B (Wd' := pgR D cD cC A (pgU σ 4 (ix d) 3) n ad) pgX1 tyX1 tyX1_ok nmX1 rfl (fun H h => pgR.dk h hj4) 6 (by decide) q_217 rfl rfl rfl rfl rfl (Nat.le_of_ble_eq_true rfl) dX2_smash_45 (hIn (13 + ix d) (by omega)) (fun H H1 h hc hz ho => pgR.putD h hj4 (by decide) pgDs6 hc ho) ?_
    refine j_iload B dX2_smash_48 0 rfl ?_
    have e9 : sp_smash σ d w = (0, σ 4 (ix d), pgU σ 4 (ix d) 3) := by
      simp only [sp_smash]; grind
    exact j_x (j_iret B hr rfl dX2_smash_50 (Nat.le_of_ble_eq_true rfl) (Nat.le_of_ble_eq_true rfl) () ⟨by rw [e9], by rw [e9]⟩ (fun H h => pgR.eq h (by rw [e9])))
  · exact j_throw (k := 3) pgTS pgTS2 pgTS3 rfl q_185 q_9 rfl B hl ht (is := 147) (text := "the disk is broken") (by decide) dX2_smash_27 dX2_smash_30 dX2_smash_31 dX2_smash_33 dX2_smash_36 (Nat.le_of_ble_eq_true rfl) (Nat.le_of_ble_eq_true rfl) (Nat.le_of_ble_eq_true rfl) (Nat.le_of_ble_eq_true rfl) (Nat.le_of_ble_eq_true rfl) (Nat.le_of_ble_eq_true rfl) (by simp only [sp_smash]; grind) (fun H H1 h hq => pgR.more h hq)
set_option maxHeartbeats 4000000 in
set_option maxRecDepth 100000 in
/-- check -/
theorem c_X2_check (l : Launch) (hl : l.stackTraces = false) (D : va_G) (cD cC cI cZ cL : ClassId) (A : Nat → Prop) (σ : pgSt) (n : Nat) (ad : Nat → Nat) (hI : pgI n σ) (d : Int32) (w : Int32) (g : Int32) (hg : g = 0 ∨ g = 1) : vx_Met l yX2_check (.code yX2_check cX2_check 5 (some .int) :: pgWd) ({ frames := 7, cells := 4, slots := 24, locals := 104 } : Room) (pgPc D (pgTys cD cC cI cZ cL) A (pgR D cD cC A σ n ad) [.ref (ad 0), .int d, .int w, .int g]) (va_Qi (fun (r : Int32) (_ : Unit) => (sp_check σ d w g).1 = 0 ∧ r = (sp_check σ d w g).2.1) (fun _ t9 => pgR D cD cC A ((sp_check σ d w g).2.2) n ad t9.heap) A) (pgX A (fun k => (sp_check σ d w g).1 = k ∧ k ≠ 0) (pgR D cD cC A σ n ad)) 4 24 A := by
  refine pg_enterX (own := RX2) (by decide) rfl (Nat.le_of_ble_eq_true rfl) (fun p e s m below meth cc9 B hr hnm ht => ?_)
  refine j_fact (fun H h => pgR.inA h) (fun hIn => ?_)
  refine j_aload_n B dX2_check_0 0 rfl rfl ?_
  refine j_iload_n B dX2_check_1 1 rfl rfl ?_
  refine j_xVr B 1 [.int d] ht (WdC' := pgR D cD cC A σ n ad)  (c_X2_findDisk l hl D cD cC cI cZ cL A σ n ad hI d) rfl (fun H h => pgR.x h) q_260 q_262 q_p2 q_1 q_263 hdX2_findDisk rfl ⟨Nat.le_of_ble_eq_true rfl, Nat.le_of_ble_eq_true rfl⟩ (Nat.le_of_ble_eq_true rfl) dX2_check_2 rfl ⟨Nat.le_of_ble_eq_true rfl, Nat.le_of_ble_eq_true rfl⟩ (Nat.le_of_ble_eq_true rfl) (Nat.le_of_ble_eq_true rfl) (fun k h => by obtain ⟨rfl, h9⟩ := h; simp only [sp_check]; grind) (fun H h => h) (fun r1 hp2 => ?_)
  obtain ⟨rfl, hD3⟩ := hp2
  have hj4 := (pgIsD.at hI hD3).1
  refine j_astore B (L' := [(4, .ref (ad (13 + ix d))), (0, .ref (ad 0)), (1, .int d), (2, .int w), (3, .int g)]) dX2_check_5 (by decide) rfl ?_
  refine j_iload_n B dX2_check_7 3 rfl rfl ?_
  refine j_xSv B 1 [.int w] ht (S := Unit) (WdC' := fun _ => pgR D cD cC A σ n ad)  (c_X2_requireKeeper l hl D cD cC cI cZ cL A σ n ad w) q_97 q_98 q_1 q_99 hdX2_requireKeeper rfl ⟨Nat.le_of_ble_eq_true rfl, Nat.le_of_ble_eq_true rfl⟩ (Nat.le_of_ble_eq_true rfl) dX2_check_8 rfl ⟨Nat.le_of_ble_eq_true rfl, Nat.le_of_ble_eq_true rfl⟩ (Nat.le_of_ble_eq_true rfl) (Nat.le_of_ble_eq_true rfl) (fun k h => by obtain ⟨rfl, h9⟩ := h; simp only [sp_check]; grind) (fun H h => h) (fun u5 hp6 => ?_)
  refine j_aload B dX2_check_11 0 rfl ?_
  refine j_get B (v := .int (σ 4 (ix d))) pgX1 rfl (fun H h => pgR.dk h hj4) 6 (by decide) q_217 rfl rfl dX2_check_13 ?_
  refine j_iconst B (v := 1) dX2_check_16 (by decide) ?_
  refine j_icmp_ne B 39 dX2_check_17 (by decide) (fun h7 => ?_) (fun h7 => ?_)
  · refine j_aload B dX2_check_39 0 rfl ?_
    refine j_xSv B 1 [.ref (ad (13 + ix d))] ht (S := Unit) (WdC' := fun _ => pgR D cD cC A σ n ad)  (c_X2_requireWithinReach l hl D cD cC cI cZ cL A σ n ad (ix d) hj4 hI.2.2.1) q_353 q_354 q_1 q_355 hdX2_requireWithinReach rfl ⟨Nat.le_of_ble_eq_true rfl, Nat.le_of_ble_eq_true rfl⟩ (Nat.le_of_ble_eq_true rfl) dX2_check_41 rfl ⟨Nat.le_of_ble_eq_true rfl, Nat.le_of_ble_eq_true rfl⟩ (Nat.le_of_ble_eq_true rfl) (Nat.le_of_ble_eq_true rfl) (fun k h => by obtain ⟨rfl, h9⟩ := h; simp only [sp_check]; grind) (fun H h => h) (fun u8 hp9 => ?_)
    refine j_aload B dX2_check_44 0 rfl ?_
    refine j_get B (v := .int (σ 4 (ix d))) pgX1 rfl (fun H h => pgR.dk h hj4) 6 (by decide) q_217 rfl rfl dX2_check_46 ?_
    refine j_iconst B (v := 1) dX2_check_49 (by decide) ?_
    refine j_icmp_eq B 63 dX2_check_50 (by decide) (fun h10 => ?_) (fun h10 => ?_)
    · refine j_aload B dX2_check_63 0 rfl ?_
      refine j_iload_n B dX2_check_65 4 rfl rfl ?_
      refine j_put B (Wd' := pgR D cD cC A (pgU σ 8 (ix d) g) n ad) pgX1 tyX1 tyX1_ok nmX1 rfl (fun H h => pgR.dk h hj4) 8 (by decide) q_221 rfl rfl rfl (by rcases hg with rfl | rfl <;> rfl) (by rcases hg with rfl | rfl <;> rfl) (Nat.le_of_ble_eq_true rfl) dX2_check_66 (hIn (13 + ix d) (by omega)) (fun H H1 h hc hz ho => pgR.putD h hj4 (by decide) pgDs8 hc ho) ?_
      refine j_iload_n B dX2_check_69 4 rfl rfl ?_
      refine j_if_ne B 79 dX2_check_70 (by decide) (fun h11 => ?_) (fun h11 => ?_)
      · refine j_aload B dX2_check_79 0 rfl ?_
        refine j_get B (v := .int (σ 4 (ix d))) pgX1 rfl (fun H h => pgR.dk h hj4) 6 (by decide) q_217 rfl rfl dX2_check_81 ?_
        have e9 : sp_check σ d w g = (0, σ 4 (ix d), pgU σ 8 (ix d) g) := by
          have q9 : σ 4 (ix d) = 1 → pgU (pgU σ 8 (ix d) g) 4 (ix d) 1 = pgU σ 8 (ix d) g := fun z => pgU_same z
          simp only [sp_check, pgU_self]; grind
        exact j_x (j_iret B hr rfl dX2_check_84 (Nat.le_of_ble_eq_true rfl) (Nat.le_of_ble_eq_true rfl) () ⟨by rw [e9], by rw [e9]⟩ (fun H h => pgR.eq h (by rw [e9])))
      · refine j_aload B dX2_check_73 0 rfl ?_
        refine j_iconst B (v := 2) dX2_check_75 (by decide) ?_
        refine j_put B (Wd' := pgR D cD cC A (pgU (pgU σ 8 (ix d) g) 4 (ix d) 2) n ad) pgX1 tyX1 tyX1_ok nmX1 rfl (fun H h => pgR.dk h hj4) 6 (by decide) q_217 rfl rfl rfl rfl rfl (Nat.le_of_ble_eq_true rfl) dX2_check_76 (hIn (13 + ix d) (by omega)) (fun H H1 h hc hz ho => pgR.putD h hj4 (by decide) pgDs6 hc ho) ?_
        refine j_aload B dX2_check_79 0 rfl ?_
        refine j_get B (v := .int 2) pgX1 rfl (fun H h => pgR.dk h hj4) 6 (by decide) q_217 rfl (by simp [pgU]) dX2_check_81 ?_
        have e9 : sp_check σ d w g = (0, 2, pgU (pgU σ 8 (ix d) g) 4 (ix d) 2) := by
          have q9 : σ 4 (ix d) = 1 → pgU (pgU σ 8 (ix d) g) 4 (ix d) 1 = pgU σ 8 (ix d) g := fun z => pgU_same z
          simp only [sp_check, pgU_self]; grind
        exact j_x (j_iret B hr rfl dX2_check_84 (Nat.le_of_ble_eq_true rfl) (Nat.le_of_ble_eq_true rfl) () ⟨by rw [e9], by rw [e9]⟩ (fun H h => pgR.eq h (by rw [e9])))
    · exact j_throw (k := 3) pgTS pgTS2 pgTS3 rfl q_185 q_9 rfl B hl ht (is := 151) (text := "the disk is not wiped") (by decide) dX2_check_53 dX2_check_56 dX2_check_57 dX2_check_59 dX2_check_62 (Nat.le_of_ble_eq_true rfl) (Nat.le_of_ble_eq_true rfl) (Nat.le_of_ble_eq_true rfl) (Nat.le_of_ble_eq_true rfl) (Nat.le_of_ble_eq_true rfl) (Nat.le_of_ble_eq_true rfl) (by simp only [sp_check]; grind) (fun H H1 h hq => pgR.more h hq)
  · refine j_iload_n B dX2_check_20 3 rfl rfl ?_
    refine j_aload B dX2_check_21 0 rfl ?_
    refine j_get B (v := .int (σ 7 (ix d))) pgX1 rfl (fun H h => pgR.dk h hj4) 7 (by decide) q_219 rfl rfl dX2_check_23 ?_
    refine j_icmp_ne B 39 dX2_check_26 (by decide) (fun h12 => ?_) (fun h12 => ?_)
    · refine j_aload B dX2_check_39 0 rfl ?_
      refine j_xSv B 1 [.ref (ad (13 + ix d))] ht (S := Unit) (WdC' := fun _ => pgR D cD cC A σ n ad)  (c_X2_requireWithinReach l hl D cD cC cI cZ cL A σ n ad (ix d) hj4 hI.2.2.1) q_353 q_354 q_1 q_355 hdX2_requireWithinReach rfl ⟨Nat.le_of_ble_eq_true rfl, Nat.le_of_ble_eq_true rfl⟩ (Nat.le_of_ble_eq_true rfl) dX2_check_41 rfl ⟨Nat.le_of_ble_eq_true rfl, Nat.le_of_ble_eq_true rfl⟩ (Nat.le_of_ble_eq_true rfl) (Nat.le_of_ble_eq_true rfl) (fun k h => by obtain ⟨rfl, h9⟩ := h; simp only [sp_check]; grind) (fun H h => h) (fun u13 hp14 => ?_)
      refine j_aload B dX2_check_44 0 rfl ?_
      refine j_get B (v := .int (σ 4 (ix d))) pgX1 rfl (fun H h => pgR.dk h hj4) 6 (by decide) q_217 rfl rfl dX2_check_46 ?_
      refine j_iconst B (v := 1) dX2_check_49 (by decide) ?_
      refine j_icmp_eq B 63 dX2_check_50 (by decide) (fun h15 => ?_) (fun h15 => ?_)
      · refine j_aload B dX2_check_63 0 rfl ?_
        refine j_iload_n B dX2_check_65 4 rfl rfl ?_
        refine j_put B (Wd' := pgR D cD cC A (pgU σ 8 (ix d) g) n ad) pgX1 tyX1 tyX1_ok nmX1 rfl (fun H h => pgR.dk h hj4) 8 (by decide) q_221 rfl rfl rfl (by rcases hg with rfl | rfl <;> rfl) (by rcases hg with rfl | rfl <;> rfl) (Nat.le_of_ble_eq_true rfl) dX2_check_66 (hIn (13 + ix d) (by omega)) (fun H H1 h hc hz ho => pgR.putD h hj4 (by decide) pgDs8 hc ho) ?_
        refine j_iload_n B dX2_check_69 4 rfl rfl ?_
        refine j_if_ne B 79 dX2_check_70 (by decide) (fun h16 => ?_) (fun h16 => ?_)
        · refine j_aload B dX2_check_79 0 rfl ?_
          refine j_get B (v := .int (σ 4 (ix d))) pgX1 rfl (fun H h => pgR.dk h hj4) 6 (by decide) q_217 rfl rfl dX2_check_81 ?_
          have e9 : sp_check σ d w g = (0, σ 4 (ix d), pgU σ 8 (ix d) g) := by
            have q9 : σ 4 (ix d) = 1 → pgU (pgU σ 8 (ix d) g) 4 (ix d) 1 = pgU σ 8 (ix d) g := fun z => pgU_same z
            simp only [sp_check, pgU_self]; grind
          exact j_x (j_iret B hr rfl dX2_check_84 (Nat.le_of_ble_eq_true rfl) (Nat.le_of_ble_eq_true rfl) () ⟨by rw [e9], by rw [e9]⟩ (fun H h => pgR.eq h (by rw [e9])))
        · refine j_aload B dX2_check_73 0 rfl ?_
          refine j_iconst B (v := 2) dX2_check_75 (by decide) ?_
          refine j_put B (Wd' := pgR D cD cC A (pgU (pgU σ 8 (ix d) g) 4 (ix d) 2) n ad) pgX1 tyX1 tyX1_ok nmX1 rfl (fun H h => pgR.dk h hj4) 6 (by decide) q_217 rfl rfl rfl rfl rfl (Nat.le_of_ble_eq_true rfl) dX2_check_76 (hIn (13 + ix d) (by omega)) (fun H H1 h hc hz ho => pgR.putD h hj4 (by decide) pgDs6 hc ho) ?_
          refine j_aload B dX2_check_79 0 rfl ?_
          refine j_get B (v := .int 2) pgX1 rfl (fun H h => pgR.dk h hj4) 6 (by decide) q_217 rfl (by simp [pgU]) dX2_check_81 ?_
          have e9 : sp_check σ d w g = (0, 2, pgU (pgU σ 8 (ix d) g) 4 (ix d) 2) := by
            have q9 : σ 4 (ix d) = 1 → pgU (pgU σ 8 (ix d) g) 4 (ix d) 1 = pgU σ 8 (ix d) g := fun z => pgU_same z
            simp only [sp_check, pgU_self]; grind
          exact j_x (j_iret B hr rfl dX2_check_84 (Nat.le_of_ble_eq_true rfl) (Nat.le_of_ble_eq_true rfl) () ⟨by rw [e9], by rw [e9]⟩ (fun H h => pgR.eq h (by rw [e9])))
      · exact j_throw (k := 3) pgTS pgTS2 pgTS3 rfl q_185 q_9 rfl B hl ht (is := 151) (text := "the disk is not wiped") (by decide) dX2_check_53 dX2_check_56 dX2_check_57 dX2_check_59 dX2_check_62 (Nat.le_of_ble_eq_true rfl) (Nat.le_of_ble_eq_true rfl) (Nat.le_of_ble_eq_true rfl) (Nat.le_of_ble_eq_true rfl) (Nat.le_of_ble_eq_true rfl) (Nat.le_of_ble_eq_true rfl) (by simp only [sp_check]; grind) (fun H H1 h hq => pgR.more h hq)
    · exact j_throw (k := 2) pgTA pgTA2 pgTA3 rfl q_169 q_8 rfl B hl ht (is := 149) (text := "the witness wiped the disk") (by decide) dX2_check_29 dX2_check_32 dX2_check_33 dX2_check_35 dX2_check_38 (Nat.le_of_ble_eq_true rfl) (Nat.le_of_ble_eq_true rfl) (Nat.le_of_ble_eq_true rfl) (Nat.le_of_ble_eq_true rfl) (Nat.le_of_ble_eq_true rfl) (Nat.le_of_ble_eq_true rfl) (by simp only [sp_check]; grind) (fun H H1 h hq => pgR.more h hq)
set_option maxHeartbeats 4000000 in
set_option maxRecDepth 100000 in
/-- lose -/
theorem c_X2_lose (l : Launch) (hl : l.stackTraces = false) (D : va_G) (cD cC cI cZ cL : ClassId) (A : Nat → Prop) (σ : pgSt) (n : Nat) (ad : Nat → Nat) (hI : pgI n σ) (d : Int32) : vx_Met l yX2_lose (.code yX2_lose cX2_lose 3 (some .int) :: pgWd) ({ frames := 7, cells := 2, slots := 12, locals := 104 } : Room) (pgPc D (pgTys cD cC cI cZ cL) A (pgR D cD cC A σ n ad) [.ref (ad 0), .int d]) (va_Qi (fun (r : Int32) (_ : Unit) => (sp_lose σ d).1 = 0 ∧ r = (sp_lose σ d).2.1) (fun _ t9 => pgR D cD cC A ((sp_lose σ d).2.2) n ad t9.heap) A) (pgX A (fun k => (sp_lose σ d).1 = k ∧ k ≠ 0) (pgR D cD cC A σ n ad)) 2 12 A := by
  refine pg_enterX (own := RX2) (by decide) rfl (Nat.le_of_ble_eq_true rfl) (fun p e s m below meth cc9 B hr hnm ht => ?_)
  refine j_fact (fun H h => pgR.inA h) (fun hIn => ?_)
  refine j_aload_n B dX2_lose_0 0 rfl rfl ?_
  refine j_iload_n B dX2_lose_1 1 rfl rfl ?_
  refine j_xVr B 1 [.int d] ht (WdC' := pgR D cD cC A σ n ad)  (c_X2_findDisk l hl D cD cC cI cZ cL A σ n ad hI d) rfl (fun H h => pgR.x h) q_260 q_262 q_p2 q_1 q_263 hdX2_findDisk rfl ⟨Nat.le_of_ble_eq_true rfl, Nat.le_of_ble_eq_true rfl⟩ (Nat.le_of_ble_eq_true rfl) dX2_lose_2 rfl ⟨Nat.le_of_ble_eq_true rfl, Nat.le_of_ble_eq_true rfl⟩ (Nat.le_of_ble_eq_true rfl) (Nat.le_of_ble_eq_true rfl) (fun k h => by obtain ⟨rfl, h9⟩ := h; simp only [sp_lose]; grind) (fun H h => h) (fun r1 hp2 => ?_)
  obtain ⟨rfl, hD3⟩ := hp2
  have hj4 := (pgIsD.at hI hD3).1
  refine j_astore_n B (L' := [(2, .ref (ad (13 + ix d))), (0, .ref (ad 0)), (1, .int d)]) dX2_lose_5 rfl (by decide) rfl ?_
  refine j_aload_n B dX2_lose_6 0 rfl rfl ?_
  refine j_get B (v := .int (σ 5 (ix d))) pgX1 rfl (fun H h => pgR.dk h hj4) 9 (by decide) q_222 rfl rfl dX2_lose_7 ?_
  refine j_if_eq B 23 dX2_lose_10 (by decide) (fun h5 => ?_) (fun h5 => ?_)
  · refine j_aload_n B dX2_lose_23 0 rfl rfl ?_
    refine j_iconst B (v := 1) dX2_lose_24 (by decide) ?_
    refine j_put B (Wd' := pgR D cD cC A (pgU σ 5 (ix d) 1) n ad) pgX1 tyX1 tyX1_ok nmX1 rfl (fun H h => pgR.dk h hj4) 9 (by decide) q_222 rfl rfl rfl rfl rfl (Nat.le_of_ble_eq_true rfl) dX2_lose_25 (hIn (13 + ix d) (by omega)) (fun H H1 h hc hz ho => pgR.putD h hj4 (by decide) pgDs9 hc ho) ?_
    refine j_aload_n B dX2_lose_28 0 rfl rfl ?_
    refine j_iconst B (v := (-1)) dX2_lose_29 (by decide) ?_
    refine j_put B (Wd' := pgR D cD cC A (pgU (pgU σ 5 (ix d) 1) 6 (ix d) (-1)) n ad) pgX1 tyX1 tyX1_ok nmX1 rfl (fun H h => pgR.dk h hj4) 5 (by decide) q_215 rfl rfl rfl rfl rfl (Nat.le_of_ble_eq_true rfl) dX2_lose_30 (hIn (13 + ix d) (by omega)) (fun H H1 h hc hz ho => pgR.putD h hj4 (by decide) pgDs5 hc ho) ?_
    refine j_aload_n B dX2_lose_33 0 rfl rfl ?_
    refine j_get B (v := .int (σ 2 (ix d))) pgX1 rfl (fun H h => pgR.dk h hj4) 2 (by decide) q_210 rfl rfl dX2_lose_34 ?_
    have e9 : sp_lose σ d = (0, σ 2 (ix d), pgU (pgU σ 5 (ix d) 1) 6 (ix d) (-1)) := by
      simp only [sp_lose]; grind
    exact j_x (j_iret B hr rfl dX2_lose_37 (Nat.le_of_ble_eq_true rfl) (Nat.le_of_ble_eq_true rfl) () ⟨by rw [e9], by rw [e9]⟩ (fun H h => pgR.eq h (by rw [e9])))
  · exact j_throw (k := 3) pgTS pgTS2 pgTS3 rfl q_185 q_9 rfl B hl ht (is := 153) (text := "the disk is missing") (by decide) dX2_lose_13 dX2_lose_16 dX2_lose_17 dX2_lose_19 dX2_lose_22 (Nat.le_of_ble_eq_true rfl) (Nat.le_of_ble_eq_true rfl) (Nat.le_of_ble_eq_true rfl) (Nat.le_of_ble_eq_true rfl) (Nat.le_of_ble_eq_true rfl) (Nat.le_of_ble_eq_true rfl) (by simp only [sp_lose]; grind) (fun H H1 h hq => pgR.more h hq)
set_option maxHeartbeats 4000000 in
set_option maxRecDepth 100000 in
/-- find -/
theorem c_X2_find (l : Launch) (hl : l.stackTraces = false) (D : va_G) (cD cC cI cZ cL : ClassId) (A : Nat → Prop) (σ : pgSt) (n : Nat) (ad : Nat → Nat) (hI : pgI n σ) (d : Int32) : vx_Met l yX2_find (.code yX2_find cX2_find 3 (some .int) :: pgWd) ({ frames := 7, cells := 2, slots := 12, locals := 104 } : Room) (pgPc D (pgTys cD cC cI cZ cL) A (pgR D cD cC A σ n ad) [.ref (ad 0), .int d]) (va_Qi (fun (r : Int32) (_ : Unit) => (sp_find σ d).1 = 0 ∧ r = (sp_find σ d).2.1) (fun _ t9 => pgR D cD cC A ((sp_find σ d).2.2) n ad t9.heap) A) (pgX A (fun k => (sp_find σ d).1 = k ∧ k ≠ 0) (pgR D cD cC A σ n ad)) 2 12 A := by
  refine pg_enterX (own := RX2) (by decide) rfl (Nat.le_of_ble_eq_true rfl) (fun p e s m below meth cc9 B hr hnm ht => ?_)
  refine j_fact (fun H h => pgR.inA h) (fun hIn => ?_)
  refine j_aload_n B dX2_find_0 0 rfl rfl ?_
  refine j_iload_n B dX2_find_1 1 rfl rfl ?_
  refine j_xVr B 1 [.int d] ht (WdC' := pgR D cD cC A σ n ad)  (c_X2_findDisk l hl D cD cC cI cZ cL A σ n ad hI d) rfl (fun H h => pgR.x h) q_260 q_262 q_p2 q_1 q_263 hdX2_findDisk rfl ⟨Nat.le_of_ble_eq_true rfl, Nat.le_of_ble_eq_true rfl⟩ (Nat.le_of_ble_eq_true rfl) dX2_find_2 rfl ⟨Nat.le_of_ble_eq_true rfl, Nat.le_of_ble_eq_true rfl⟩ (Nat.le_of_ble_eq_true rfl) (Nat.le_of_ble_eq_true rfl) (fun k h => by obtain ⟨rfl, h9⟩ := h; simp only [sp_find]; grind) (fun H h => h) (fun r1 hp2 => ?_)
  obtain ⟨rfl, hD3⟩ := hp2
  have hj4 := (pgIsD.at hI hD3).1
  refine j_astore_n B (L' := [(2, .ref (ad (13 + ix d))), (0, .ref (ad 0)), (1, .int d)]) dX2_find_5 rfl (by decide) rfl ?_
  refine j_aload_n B dX2_find_6 0 rfl rfl ?_
  refine j_get B (v := .int (σ 5 (ix d))) pgX1 rfl (fun H h => pgR.dk h hj4) 9 (by decide) q_222 rfl rfl dX2_find_7 ?_
  refine j_if_ne B 23 dX2_find_10 (by decide) (fun h5 => ?_) (fun h5 => ?_)
  · refine j_aload_n B dX2_find_23 0 rfl rfl ?_
    refine j_iconst B (v := 0) dX2_find_24 (by decide) ?_
    refine j_put B (Wd' := pgR D cD cC A (pgU σ 5 (ix d) 0) n ad) pgX1 tyX1 tyX1_ok nmX1 rfl (fun H h => pgR.dk h hj4) 9 (by decide) q_222 rfl rfl rfl rfl rfl (Nat.le_of_ble_eq_true rfl) dX2_find_25 (hIn (13 + ix d) (by omega)) (fun H H1 h hc hz ho => pgR.putD h hj4 (by decide) pgDs9 hc ho) ?_
    refine j_aload_n B dX2_find_28 0 rfl rfl ?_
    refine j_cVi B (S := Unit) 0 [] (WdC' := fun _ => pgR D cD cC A (pgU σ 5 (ix d) 0) n ad) (fun _ => pgR D cD cC A (pgU σ 5 (ix d) 0) n ad) (c_X1_crateNumber l D cD cC cI cZ cL A (pgU σ 5 (ix d) 0) n ad (ix d) hj4 (pgCr_ne (by decide) hI.2.2.1)) rfl (fun H h => pgR.dk h hj4) q_299 q_300 q_301 q_10 q_302 hdX1_crateNumber rfl ⟨Nat.le_of_ble_eq_true rfl, Nat.le_of_ble_eq_true rfl⟩ (Nat.le_of_ble_eq_true rfl) dX2_find_29 rfl ⟨Nat.le_of_ble_eq_true rfl, Nat.le_of_ble_eq_true rfl⟩ (fun _ h => h) (fun _ _ _ _ h => h) (fun _ h => h) (fun _ _ _ _ h _ _ => h) (fun r6 _ hp7 => ?_)
    obtain rfl : r6 = σ 3 (ix d) := hp7
    have e9 : sp_find σ d = (0, σ 3 (ix d), pgU σ 5 (ix d) 0) := by
      simp only [sp_find]; grind
    exact j_x (j_iret B hr rfl dX2_find_32 (Nat.le_of_ble_eq_true rfl) (Nat.le_of_ble_eq_true rfl) () ⟨by rw [e9], by rw [e9]⟩ (fun H h => pgR.eq h (by rw [e9])))
  · exact j_throw (k := 3) pgTS pgTS2 pgTS3 rfl q_185 q_9 rfl B hl ht (is := 155) (text := "the disk is not missing") (by decide) dX2_find_13 dX2_find_16 dX2_find_17 dX2_find_19 dX2_find_22 (Nat.le_of_ble_eq_true rfl) (Nat.le_of_ble_eq_true rfl) (Nat.le_of_ble_eq_true rfl) (Nat.le_of_ble_eq_true rfl) (Nat.le_of_ble_eq_true rfl) (Nat.le_of_ble_eq_true rfl) (by simp only [sp_find]; grind) (fun H H1 h hq => pgR.more h hq)
set_option maxHeartbeats 4000000 in
set_option maxRecDepth 100000 in
/-- keeperOf -/
theorem c_X2_keeperOf (l : Launch) (hl : l.stackTraces = false) (D : va_G) (cD cC cI cZ cL : ClassId) (A : Nat → Prop) (σ : pgSt) (n : Nat) (ad : Nat → Nat) (hI : pgI n σ) (d : Int32) : vx_Met l yX2_keeperOf (.code yX2_keeperOf cX2_keeperOf 2 (some .int) :: pgWd) ({ frames := 7, cells := 1, slots := 6, locals := 104 } : Room) (pgPc D (pgTys cD cC cI cZ cL) A (pgR D cD cC A σ n ad) [.ref (ad 0), .int d]) (va_Qi (fun (r : Int32) (_ : Unit) => (sp_askD σ d 2).1 = 0 ∧ r = (sp_askD σ d 2).2.1) (fun _ t9 => pgR D cD cC A ((sp_askD σ d 2).2.2) n ad t9.heap) A) (pgX A (fun k => (sp_askD σ d 2).1 = k ∧ k ≠ 0) (pgR D cD cC A σ n ad)) 1 6 A := by
  refine pg_enterX (own := RX2) (by decide) rfl (Nat.le_of_ble_eq_true rfl) (fun p e s m below meth cc9 B hr hnm ht => ?_)
  refine j_fact (fun H h => pgR.inA h) (fun hIn => ?_)
  refine j_aload_n B dX2_keeperOf_0 0 rfl rfl ?_
  refine j_iload_n B dX2_keeperOf_1 1 rfl rfl ?_
  refine j_xVr B 1 [.int d] ht (WdC' := pgR D cD cC A σ n ad)  (c_X2_findDisk l hl D cD cC cI cZ cL A σ n ad hI d) rfl (fun H h => pgR.x h) q_260 q_262 q_p2 q_1 q_263 hdX2_findDisk rfl ⟨Nat.le_of_ble_eq_true rfl, Nat.le_of_ble_eq_true rfl⟩ (Nat.le_of_ble_eq_true rfl) dX2_keeperOf_2 rfl ⟨Nat.le_of_ble_eq_true rfl, Nat.le_of_ble_eq_true rfl⟩ (Nat.le_of_ble_eq_true rfl) (Nat.le_of_ble_eq_true rfl) (fun k h => by obtain ⟨rfl, h9⟩ := h; simp only [sp_askD]; grind) (fun H h => h) (fun r1 hp2 => ?_)
  obtain ⟨rfl, hD3⟩ := hp2
  have hj4 := (pgIsD.at hI hD3).1
  refine j_get B (v := .int (σ 2 (ix d))) pgX1 rfl (fun H h => pgR.dk h hj4) 2 (by decide) q_210 rfl rfl dX2_keeperOf_5 ?_
  have e9 : sp_askD σ d 2 = (0, σ 2 (ix d), σ) := by
    simp only [sp_askD]; grind
  exact j_x (j_iret B hr rfl dX2_keeperOf_8 (Nat.le_of_ble_eq_true rfl) (Nat.le_of_ble_eq_true rfl) () ⟨by rw [e9], by rw [e9]⟩ (fun H h => pgR.eq h (by rw [e9])))
set_option maxHeartbeats 4000000 in
set_option maxRecDepth 100000 in
/-- keeperByLog -/
theorem c_X2_keeperByLog (l : Launch) (hl : l.stackTraces = false) (D : va_G) (cD cC cI cZ cL : ClassId) (A : Nat → Prop) (σ : pgSt) (n : Nat) (ad : Nat → Nat) (hI : pgI n σ) (d : Int32) : vx_Met l yX2_keeperByLog (.code yX2_keeperByLog cX2_keeperByLog 2 (some .int) :: pgWd) ({ frames := 7, cells := 1, slots := 6, locals := 104 } : Room) (pgPc D (pgTys cD cC cI cZ cL) A (pgR D cD cC A σ n ad) [.ref (ad 0), .int d]) (va_Qi (fun (r : Int32) (_ : Unit) => (sp_askD σ d 14).1 = 0 ∧ r = (sp_askD σ d 14).2.1) (fun _ t9 => pgR D cD cC A ((sp_askD σ d 14).2.2) n ad t9.heap) A) (pgX A (fun k => (sp_askD σ d 14).1 = k ∧ k ≠ 0) (pgR D cD cC A σ n ad)) 1 6 A := by
  refine pg_enterX (own := RX2) (by decide) rfl (Nat.le_of_ble_eq_true rfl) (fun p e s m below meth cc9 B hr hnm ht => ?_)
  refine j_fact (fun H h => pgR.inA h) (fun hIn => ?_)
  refine j_aload_n B dX2_keeperByLog_0 0 rfl rfl ?_
  refine j_iload_n B dX2_keeperByLog_1 1 rfl rfl ?_
  refine j_xVr B 1 [.int d] ht (WdC' := pgR D cD cC A σ n ad)  (c_X2_findDisk l hl D cD cC cI cZ cL A σ n ad hI d) rfl (fun H h => pgR.x h) q_260 q_262 q_p2 q_1 q_263 hdX2_findDisk rfl ⟨Nat.le_of_ble_eq_true rfl, Nat.le_of_ble_eq_true rfl⟩ (Nat.le_of_ble_eq_true rfl) dX2_keeperByLog_2 rfl ⟨Nat.le_of_ble_eq_true rfl, Nat.le_of_ble_eq_true rfl⟩ (Nat.le_of_ble_eq_true rfl) (Nat.le_of_ble_eq_true rfl) (fun k h => by obtain ⟨rfl, h9⟩ := h; simp only [sp_askD]; grind) (fun H h => h) (fun r1 hp2 => ?_)
  obtain ⟨rfl, hD3⟩ := hp2
  have hj4 := (pgIsD.at hI hD3).1
  refine j_get B (v := .int (σ 14 (ix d))) pgX1 rfl (fun H h => pgR.dk h hj4) 3 (by decide) q_211 rfl rfl dX2_keeperByLog_5 ?_
  have e9 : sp_askD σ d 14 = (0, σ 14 (ix d), σ) := by
    simp only [sp_askD]; grind
  exact j_x (j_iret B hr rfl dX2_keeperByLog_8 (Nat.le_of_ble_eq_true rfl) (Nat.le_of_ble_eq_true rfl) () ⟨by rw [e9], by rw [e9]⟩ (fun H h => pgR.eq h (by rw [e9])))
set_option maxHeartbeats 4000000 in
set_option maxRecDepth 100000 in
/-- crateOf -/
theorem c_X2_crateOf (l : Launch) (hl : l.stackTraces = false) (D : va_G) (cD cC cI cZ cL : ClassId) (A : Nat → Prop) (σ : pgSt) (n : Nat) (ad : Nat → Nat) (hI : pgI n σ) (d : Int32) : vx_Met l yX2_crateOf (.code yX2_crateOf cX2_crateOf 2 (some .int) :: pgWd) ({ frames := 7, cells := 1, slots := 6, locals := 104 } : Room) (pgPc D (pgTys cD cC cI cZ cL) A (pgR D cD cC A σ n ad) [.ref (ad 0), .int d]) (va_Qi (fun (r : Int32) (_ : Unit) => (sp_askD σ d 3).1 = 0 ∧ r = (sp_askD σ d 3).2.1) (fun _ t9 => pgR D cD cC A ((sp_askD σ d 3).2.2) n ad t9.heap) A) (pgX A (fun k => (sp_askD σ d 3).1 = k ∧ k ≠ 0) (pgR D cD cC A σ n ad)) 1 6 A := by
  refine pg_enterX (own := RX2) (by decide) rfl (Nat.le_of_ble_eq_true rfl) (fun p e s m below meth cc9 B hr hnm ht => ?_)
  refine j_fact (fun H h => pgR.inA h) (fun hIn => ?_)
  refine j_aload_n B dX2_crateOf_0 0 rfl rfl ?_
  refine j_iload_n B dX2_crateOf_1 1 rfl rfl ?_
  refine j_xVr B 1 [.int d] ht (WdC' := pgR D cD cC A σ n ad)  (c_X2_findDisk l hl D cD cC cI cZ cL A σ n ad hI d) rfl (fun H h => pgR.x h) q_260 q_262 q_p2 q_1 q_263 hdX2_findDisk rfl ⟨Nat.le_of_ble_eq_true rfl, Nat.le_of_ble_eq_true rfl⟩ (Nat.le_of_ble_eq_true rfl) dX2_crateOf_2 rfl ⟨Nat.le_of_ble_eq_true rfl, Nat.le_of_ble_eq_true rfl⟩ (Nat.le_of_ble_eq_true rfl) (Nat.le_of_ble_eq_true rfl) (fun k h => by obtain ⟨rfl, h9⟩ := h; simp only [sp_askD]; grind) (fun H h => h) (fun r1 hp2 => ?_)
  obtain ⟨rfl, hD3⟩ := hp2
  have hj4 := (pgIsD.at hI hD3).1
  refine j_cVi B (S := Unit) 0 [] (WdC' := fun _ => pgR D cD cC A σ n ad) (fun _ => pgR D cD cC A σ n ad) (c_X1_crateNumber l D cD cC cI cZ cL A σ n ad (ix d) hj4 hI.2.2.1) rfl (fun H h => pgR.dk h hj4) q_299 q_300 q_301 q_10 q_302 hdX1_crateNumber rfl ⟨Nat.le_of_ble_eq_true rfl, Nat.le_of_ble_eq_true rfl⟩ (Nat.le_of_ble_eq_true rfl) dX2_crateOf_5 rfl ⟨Nat.le_of_ble_eq_true rfl, Nat.le_of_ble_eq_true rfl⟩ (fun _ h => h) (fun _ _ _ _ h => h) (fun _ h => h) (fun _ _ _ _ h _ _ => h) (fun r5 _ hp6 => ?_)
  obtain rfl : r5 = σ 3 (ix d) := hp6
  have e9 : sp_askD σ d 3 = (0, σ 3 (ix d), σ) := by
    simp only [sp_askD]; grind
  exact j_x (j_iret B hr rfl dX2_crateOf_8 (Nat.le_of_ble_eq_true rfl) (Nat.le_of_ble_eq_true rfl) () ⟨by rw [e9], by rw [e9]⟩ (fun H h => pgR.eq h (by rw [e9])))
set_option maxHeartbeats 4000000 in
set_option maxRecDepth 100000 in
/-- stateOf -/
theorem c_X2_stateOf (l : Launch) (hl : l.stackTraces = false) (D : va_G) (cD cC cI cZ cL : ClassId) (A : Nat → Prop) (σ : pgSt) (n : Nat) (ad : Nat → Nat) (hI : pgI n σ) (d : Int32) : vx_Met l yX2_stateOf (.code yX2_stateOf cX2_stateOf 2 (some .int) :: pgWd) ({ frames := 7, cells := 1, slots := 6, locals := 104 } : Room) (pgPc D (pgTys cD cC cI cZ cL) A (pgR D cD cC A σ n ad) [.ref (ad 0), .int d]) (va_Qi (fun (r : Int32) (_ : Unit) => (sp_askD σ d 4).1 = 0 ∧ r = (sp_askD σ d 4).2.1) (fun _ t9 => pgR D cD cC A ((sp_askD σ d 4).2.2) n ad t9.heap) A) (pgX A (fun k => (sp_askD σ d 4).1 = k ∧ k ≠ 0) (pgR D cD cC A σ n ad)) 1 6 A := by
  refine pg_enterX (own := RX2) (by decide) rfl (Nat.le_of_ble_eq_true rfl) (fun p e s m below meth cc9 B hr hnm ht => ?_)
  refine j_fact (fun H h => pgR.inA h) (fun hIn => ?_)
  refine j_aload_n B dX2_stateOf_0 0 rfl rfl ?_
  refine j_iload_n B dX2_stateOf_1 1 rfl rfl ?_
  refine j_xVr B 1 [.int d] ht (WdC' := pgR D cD cC A σ n ad)  (c_X2_findDisk l hl D cD cC cI cZ cL A σ n ad hI d) rfl (fun H h => pgR.x h) q_260 q_262 q_p2 q_1 q_263 hdX2_findDisk rfl ⟨Nat.le_of_ble_eq_true rfl, Nat.le_of_ble_eq_true rfl⟩ (Nat.le_of_ble_eq_true rfl) dX2_stateOf_2 rfl ⟨Nat.le_of_ble_eq_true rfl, Nat.le_of_ble_eq_true rfl⟩ (Nat.le_of_ble_eq_true rfl) (Nat.le_of_ble_eq_true rfl) (fun k h => by obtain ⟨rfl, h9⟩ := h; simp only [sp_askD]; grind) (fun H h => h) (fun r1 hp2 => ?_)
  obtain ⟨rfl, hD3⟩ := hp2
  have hj4 := (pgIsD.at hI hD3).1
  refine j_get B (v := .int (σ 4 (ix d))) pgX1 rfl (fun H h => pgR.dk h hj4) 6 (by decide) q_217 rfl rfl dX2_stateOf_5 ?_
  have e9 : sp_askD σ d 4 = (0, σ 4 (ix d), σ) := by
    simp only [sp_askD]; grind
  exact j_x (j_iret B hr rfl dX2_stateOf_8 (Nat.le_of_ble_eq_true rfl) (Nat.le_of_ble_eq_true rfl) () ⟨by rw [e9], by rw [e9]⟩ (fun H h => pgR.eq h (by rw [e9])))
set_option maxHeartbeats 4000000 in
set_option maxRecDepth 100000 in
/-- offeredTo -/
theorem c_X2_offeredTo (l : Launch) (hl : l.stackTraces = false) (D : va_G) (cD cC cI cZ cL : ClassId) (A : Nat → Prop) (σ : pgSt) (n : Nat) (ad : Nat → Nat) (hI : pgI n σ) (d : Int32) : vx_Met l yX2_offeredTo (.code yX2_offeredTo cX2_offeredTo 2 (some .int) :: pgWd) ({ frames := 7, cells := 1, slots := 6, locals := 104 } : Room) (pgPc D (pgTys cD cC cI cZ cL) A (pgR D cD cC A σ n ad) [.ref (ad 0), .int d]) (va_Qi (fun (r : Int32) (_ : Unit) => (sp_askD σ d 6).1 = 0 ∧ r = (sp_askD σ d 6).2.1) (fun _ t9 => pgR D cD cC A ((sp_askD σ d 6).2.2) n ad t9.heap) A) (pgX A (fun k => (sp_askD σ d 6).1 = k ∧ k ≠ 0) (pgR D cD cC A σ n ad)) 1 6 A := by
  refine pg_enterX (own := RX2) (by decide) rfl (Nat.le_of_ble_eq_true rfl) (fun p e s m below meth cc9 B hr hnm ht => ?_)
  refine j_fact (fun H h => pgR.inA h) (fun hIn => ?_)
  refine j_aload_n B dX2_offeredTo_0 0 rfl rfl ?_
  refine j_iload_n B dX2_offeredTo_1 1 rfl rfl ?_
  refine j_xVr B 1 [.int d] ht (WdC' := pgR D cD cC A σ n ad)  (c_X2_findDisk l hl D cD cC cI cZ cL A σ n ad hI d) rfl (fun H h => pgR.x h) q_260 q_262 q_p2 q_1 q_263 hdX2_findDisk rfl ⟨Nat.le_of_ble_eq_true rfl, Nat.le_of_ble_eq_true rfl⟩ (Nat.le_of_ble_eq_true rfl) dX2_offeredTo_2 rfl ⟨Nat.le_of_ble_eq_true rfl, Nat.le_of_ble_eq_true rfl⟩ (Nat.le_of_ble_eq_true rfl) (Nat.le_of_ble_eq_true rfl) (fun k h => by obtain ⟨rfl, h9⟩ := h; simp only [sp_askD]; grind) (fun H h => h) (fun r1 hp2 => ?_)
  obtain ⟨rfl, hD3⟩ := hp2
  have hj4 := (pgIsD.at hI hD3).1
  refine j_get B (v := .int (σ 6 (ix d))) pgX1 rfl (fun H h => pgR.dk h hj4) 5 (by decide) q_215 rfl rfl dX2_offeredTo_5 ?_
  have e9 : sp_askD σ d 6 = (0, σ 6 (ix d), σ) := by
    simp only [sp_askD]; grind
  exact j_x (j_iret B hr rfl dX2_offeredTo_8 (Nat.le_of_ble_eq_true rfl) (Nat.le_of_ble_eq_true rfl) () ⟨by rw [e9], by rw [e9]⟩ (fun H h => pgR.eq h (by rw [e9])))
set_option maxHeartbeats 4000000 in
set_option maxRecDepth 100000 in
/-- certificateOf -/
theorem c_X2_certificateOf (l : Launch) (hl : l.stackTraces = false) (D : va_G) (cD cC cI cZ cL : ClassId) (A : Nat → Prop) (σ : pgSt) (n : Nat) (ad : Nat → Nat) (hI : pgI n σ) (d : Int32) : vx_Met l yX2_certificateOf (.code yX2_certificateOf cX2_certificateOf 2 (some .int) :: pgWd) ({ frames := 7, cells := 1, slots := 6, locals := 104 } : Room) (pgPc D (pgTys cD cC cI cZ cL) A (pgR D cD cC A σ n ad) [.ref (ad 0), .int d]) (va_Qi (fun (r : Int32) (_ : Unit) => (sp_askD σ d 9).1 = 0 ∧ r = (sp_askD σ d 9).2.1) (fun _ t9 => pgR D cD cC A ((sp_askD σ d 9).2.2) n ad t9.heap) A) (pgX A (fun k => (sp_askD σ d 9).1 = k ∧ k ≠ 0) (pgR D cD cC A σ n ad)) 1 6 A := by
  refine pg_enterX (own := RX2) (by decide) rfl (Nat.le_of_ble_eq_true rfl) (fun p e s m below meth cc9 B hr hnm ht => ?_)
  refine j_fact (fun H h => pgR.inA h) (fun hIn => ?_)
  refine j_aload_n B dX2_certificateOf_0 0 rfl rfl ?_
  refine j_iload_n B dX2_certificateOf_1 1 rfl rfl ?_
  refine j_xVr B 1 [.int d] ht (WdC' := pgR D cD cC A σ n ad)  (c_X2_findDisk l hl D cD cC cI cZ cL A σ n ad hI d) rfl (fun H h => pgR.x h) q_260 q_262 q_p2 q_1 q_263 hdX2_findDisk rfl ⟨Nat.le_of_ble_eq_true rfl, Nat.le_of_ble_eq_true rfl⟩ (Nat.le_of_ble_eq_true rfl) dX2_certificateOf_2 rfl ⟨Nat.le_of_ble_eq_true rfl, Nat.le_of_ble_eq_true rfl⟩ (Nat.le_of_ble_eq_true rfl) (Nat.le_of_ble_eq_true rfl) (fun k h => by obtain ⟨rfl, h9⟩ := h; simp only [sp_askD]; grind) (fun H h => h) (fun r1 hp2 => ?_)
  obtain ⟨rfl, hD3⟩ := hp2
  have hj4 := (pgIsD.at hI hD3).1
  refine j_get B (v := .int (σ 9 (ix d))) pgX1 rfl (fun H h => pgR.dk h hj4) 10 (by decide) q_225 rfl rfl dX2_certificateOf_5 ?_
  have e9 : sp_askD σ d 9 = (0, σ 9 (ix d), σ) := by
    simp only [sp_askD]; grind
  exact j_x (j_iret B hr rfl dX2_certificateOf_8 (Nat.le_of_ble_eq_true rfl) (Nat.le_of_ble_eq_true rfl) () ⟨by rw [e9], by rw [e9]⟩ (fun H h => pgR.eq h (by rw [e9])))
set_option maxHeartbeats 4000000 in
set_option maxRecDepth 100000 in
/-- isDone -/
theorem c_X2_isDone (l : Launch) (hl : l.stackTraces = false) (D : va_G) (cD cC cI cZ cL : ClassId) (A : Nat → Prop) (σ : pgSt) (n : Nat) (ad : Nat → Nat) (hI : pgI n σ) (d : Int32) : vx_Met l yX2_isDone (.code yX2_isDone cX2_isDone 2 (some .boolean) :: pgWd) ({ frames := 7, cells := 1, slots := 6, locals := 104 } : Room) (pgPc D (pgTys cD cC cI cZ cL) A (pgR D cD cC A σ n ad) [.ref (ad 0), .int d]) (va_Qi (fun (r : Int32) (_ : Unit) => (sp_isDone σ d).1 = 0 ∧ r = (sp_isDone σ d).2.1) (fun _ t9 => pgR D cD cC A ((sp_isDone σ d).2.2) n ad t9.heap) A) (pgX A (fun k => (sp_isDone σ d).1 = k ∧ k ≠ 0) (pgR D cD cC A σ n ad)) 1 6 A := by
  refine pg_enterX (own := RX2) (by decide) rfl (Nat.le_of_ble_eq_true rfl) (fun p e s m below meth cc9 B hr hnm ht => ?_)
  refine j_fact (fun H h => pgR.inA h) (fun hIn => ?_)
  refine j_aload_n B dX2_isDone_0 0 rfl rfl ?_
  refine j_iload_n B dX2_isDone_1 1 rfl rfl ?_
  refine j_xVr B 1 [.int d] ht (WdC' := pgR D cD cC A σ n ad)  (c_X2_findDisk l hl D cD cC cI cZ cL A σ n ad hI d) rfl (fun H h => pgR.x h) q_260 q_262 q_p2 q_1 q_263 hdX2_findDisk rfl ⟨Nat.le_of_ble_eq_true rfl, Nat.le_of_ble_eq_true rfl⟩ (Nat.le_of_ble_eq_true rfl) dX2_isDone_2 rfl ⟨Nat.le_of_ble_eq_true rfl, Nat.le_of_ble_eq_true rfl⟩ (Nat.le_of_ble_eq_true rfl) (Nat.le_of_ble_eq_true rfl) (fun k h => by obtain ⟨rfl, h9⟩ := h; simp only [sp_isDone]; grind) (fun H h => h) (fun r1 hp2 => ?_)
  obtain ⟨rfl, hD3⟩ := hp2
  have hj4 := (pgIsD.at hI hD3).1
  refine j_cVi B (S := Unit) 0 [] (WdC' := fun _ => pgR D cD cC A σ n ad) (fun _ => pgR D cD cC A σ n ad) (c_X1_isFinished l D cD cC cI cZ cL A σ n ad (ix d) hj4) rfl (fun H h => pgR.dk h hj4) q_463 q_409 q_410 q_10 q_411 hdX1_isFinished rfl ⟨Nat.le_of_ble_eq_true rfl, Nat.le_of_ble_eq_true rfl⟩ (Nat.le_of_ble_eq_true rfl) dX2_isDone_5 rfl ⟨Nat.le_of_ble_eq_true rfl, Nat.le_of_ble_eq_true rfl⟩ (fun _ h => h) (fun _ _ _ _ h => h) (fun _ h => h) (fun _ _ _ _ h _ _ => h) (fun r5 _ hp6 => ?_)
  by_cases h7 : pgFin σ (ix d)
  · obtain rfl : r5 = 1 := by rw [hp6]; exact if_pos h7
    have e9 : sp_isDone σ d = (0, 1, σ) := by
      simp only [sp_isDone]; grind
    exact j_x (j_iret B hr rfl dX2_isDone_8 (Nat.le_of_ble_eq_true rfl) (Nat.le_of_ble_eq_true rfl) () ⟨by rw [e9], by rw [e9]⟩ (fun H h => pgR.eq h (by rw [e9])))
  · obtain rfl : r5 = 0 := by rw [hp6]; exact if_neg h7
    have e9 : sp_isDone σ d = (0, 0, σ) := by
      simp only [sp_isDone]; grind
    exact j_x (j_iret B hr rfl dX2_isDone_8 (Nat.le_of_ble_eq_true rfl) (Nat.le_of_ble_eq_true rfl) () ⟨by rw [e9], by rw [e9]⟩ (fun H h => pgR.eq h (by rw [e9])))
set_option maxHeartbeats 4000000 in
set_option maxRecDepth 100000 in
/-- crateKeeper -/
theorem c_X2_crateKeeper (l : Launch) (hl : l.stackTraces = false) (D : va_G) (cD cC cI cZ cL : ClassId) (A : Nat → Prop) (σ : pgSt) (n : Nat) (ad : Nat → Nat) (hI : pgI n σ) (c : Int32) : vx_Met l yX2_crateKeeper (.code yX2_crateKeeper cX2_crateKeeper 2 (some .int) :: pgWd) ({ frames := 7, cells := 1, slots := 6, locals := 104 } : Room) (pgPc D (pgTys cD cC cI cZ cL) A (pgR D cD cC A σ n ad) [.ref (ad 0), .int c]) (va_Qi (fun (r : Int32) (_ : Unit) => (sp_askC σ c 10).1 = 0 ∧ r = (sp_askC σ c 10).2.1) (fun _ t9 => pgR D cD cC A ((sp_askC σ c 10).2.2) n ad t9.heap) A) (pgX A (fun k => (sp_askC σ c 10).1 = k ∧ k ≠ 0) (pgR D cD cC A σ n ad)) 1 6 A := by
  refine pg_enterX (own := RX2) (by decide) rfl (Nat.le_of_ble_eq_true rfl) (fun p e s m below meth cc9 B hr hnm ht => ?_)
  refine j_fact (fun H h => pgR.inA h) (fun hIn => ?_)
  refine j_aload_n B dX2_crateKeeper_0 0 rfl rfl ?_
  refine j_iload_n B dX2_crateKeeper_1 1 rfl rfl ?_
  refine j_xVr B 1 [.int c] ht (WdC' := pgR D cD cC A σ n ad)  (c_X2_findCrate l hl D cD cC cI cZ cL A σ n ad c) rfl (fun H h => pgR.x h) q_285 q_287 q_p3 q_1 q_288 hdX2_findCrate rfl ⟨Nat.le_of_ble_eq_true rfl, Nat.le_of_ble_eq_true rfl⟩ (Nat.le_of_ble_eq_true rfl) dX2_crateKeeper_2 rfl ⟨Nat.le_of_ble_eq_true rfl, Nat.le_of_ble_eq_true rfl⟩ (Nat.le_of_ble_eq_true rfl) (Nat.le_of_ble_eq_true rfl) (fun k h => by obtain ⟨rfl, h9⟩ := h; simp only [sp_askC]; grind) (fun H h => h) (fun r1 hp2 => ?_)
  obtain ⟨rfl, hD3⟩ := hp2
  have hj4 := (pgIsC.at hD3).1
  refine j_get B (v := .int (σ 10 (ix c))) pgX0 rfl (fun H h => pgR.cr h hj4) 1 (by decide) q_32 rfl rfl dX2_crateKeeper_5 ?_
  have e9 : sp_askC σ c 10 = (0, σ 10 (ix c), σ) := by
    simp only [sp_askC]; grind
  exact j_x (j_iret B hr rfl dX2_crateKeeper_8 (Nat.le_of_ble_eq_true rfl) (Nat.le_of_ble_eq_true rfl) () ⟨by rw [e9], by rw [e9]⟩ (fun H h => pgR.eq h (by rw [e9])))
set_option maxHeartbeats 4000000 in
set_option maxRecDepth 100000 in
/-- sealOf -/
theorem c_X2_sealOf (l : Launch) (hl : l.stackTraces = false) (D : va_G) (cD cC cI cZ cL : ClassId) (A : Nat → Prop) (σ : pgSt) (n : Nat) (ad : Nat → Nat) (hI : pgI n σ) (c : Int32) : vx_Met l yX2_sealOf (.code yX2_sealOf cX2_sealOf 2 (some .int) :: pgWd) ({ frames := 7, cells := 1, slots := 6, locals := 104 } : Room) (pgPc D (pgTys cD cC cI cZ cL) A (pgR D cD cC A σ n ad) [.ref (ad 0), .int c]) (va_Qi (fun (r : Int32) (_ : Unit) => (sp_askC σ c 11).1 = 0 ∧ r = (sp_askC σ c 11).2.1) (fun _ t9 => pgR D cD cC A ((sp_askC σ c 11).2.2) n ad t9.heap) A) (pgX A (fun k => (sp_askC σ c 11).1 = k ∧ k ≠ 0) (pgR D cD cC A σ n ad)) 1 6 A := by
  refine pg_enterX (own := RX2) (by decide) rfl (Nat.le_of_ble_eq_true rfl) (fun p e s m below meth cc9 B hr hnm ht => ?_)
  refine j_fact (fun H h => pgR.inA h) (fun hIn => ?_)
  refine j_aload_n B dX2_sealOf_0 0 rfl rfl ?_
  refine j_iload_n B dX2_sealOf_1 1 rfl rfl ?_
  refine j_xVr B 1 [.int c] ht (WdC' := pgR D cD cC A σ n ad)  (c_X2_findCrate l hl D cD cC cI cZ cL A σ n ad c) rfl (fun H h => pgR.x h) q_285 q_287 q_p3 q_1 q_288 hdX2_findCrate rfl ⟨Nat.le_of_ble_eq_true rfl, Nat.le_of_ble_eq_true rfl⟩ (Nat.le_of_ble_eq_true rfl) dX2_sealOf_2 rfl ⟨Nat.le_of_ble_eq_true rfl, Nat.le_of_ble_eq_true rfl⟩ (Nat.le_of_ble_eq_true rfl) (Nat.le_of_ble_eq_true rfl) (fun k h => by obtain ⟨rfl, h9⟩ := h; simp only [sp_askC]; grind) (fun H h => h) (fun r1 hp2 => ?_)
  obtain ⟨rfl, hD3⟩ := hp2
  have hj4 := (pgIsC.at hD3).1
  refine j_get B (v := .int (σ 11 (ix c))) pgX0 rfl (fun H h => pgR.cr h hj4) 2 (by decide) q_34 rfl rfl dX2_sealOf_5 ?_
  have e9 : sp_askC σ c 11 = (0, σ 11 (ix c), σ) := by
    simp only [sp_askC]; grind
  exact j_x (j_iret B hr rfl dX2_sealOf_8 (Nat.le_of_ble_eq_true rfl) (Nat.le_of_ble_eq_true rfl) () ⟨by rw [e9], by rw [e9]⟩ (fun H h => pgR.eq h (by rw [e9])))
set_option maxHeartbeats 4000000 in
set_option maxRecDepth 100000 in
/-- disks -/
theorem c_X2_disks (l : Launch) (D : va_G) (cD cC cI cZ cL : ClassId) (A : Nat → Prop) (σ : pgSt) (n : Nat) (ad : Nat → Nat)  : Met l yX2_disks (.code yX2_disks cX2_disks 1 (some .int) :: pgWd) ({ frames := 0, cells := 0, slots := 0, locals := 0 } : Room) (pgPc D (pgTys cD cC cI cZ cL) A (pgR D cD cC A σ n ad) [.ref (ad 0)]) (va_Qi (fun (r : Int32) (_ : Unit) => r = σ 13 0) (fun _ t9 => pgR D cD cC A σ n ad t9.heap) A) 0 0 A := by
  refine pg_enter (own := RX2) (by decide) rfl (Nat.le_of_ble_eq_true rfl) (fun p e s m below meth cc9 B hr hnm => ?_)
  refine j_aload_n B dX2_disks_0 0 rfl rfl ?_
  refine j_get B (v := .int (σ 13 0)) pgX2 rfl (fun H h => pgR.x h) 2 (by decide) q_47 rfl rfl dX2_disks_1 ?_
  exact j_iret B hr rfl dX2_disks_4 (Nat.le_of_ble_eq_true rfl) (Nat.le_of_ble_eq_true rfl) () rfl (fun H h => h)
set_option maxHeartbeats 4000000 in
set_option maxRecDepth 100000 in
/-- oddCounts -/
theorem c_X2_oddCounts (l : Launch) (D : va_G) (cD cC cI cZ cL : ClassId) (A : Nat → Prop) (σ : pgSt) (n : Nat) (ad : Nat → Nat)  : Met l yX2_oddCounts (.code yX2_oddCounts cX2_oddCounts 1 (some .int) :: pgWd) ({ frames := 0, cells := 0, slots := 0, locals := 0 } : Room) (pgPc D (pgTys cD cC cI cZ cL) A (pgR D cD cC A σ n ad) [.ref (ad 0)]) (va_Qi (fun (r : Int32) (_ : Unit) => r = σ 13 2) (fun _ t9 => pgR D cD cC A σ n ad t9.heap) A) 0 0 A := by
  refine pg_enter (own := RX2) (by decide) rfl (Nat.le_of_ble_eq_true rfl) (fun p e s m below meth cc9 B hr hnm => ?_)
  refine j_aload_n B dX2_oddCounts_0 0 rfl rfl ?_
  refine j_get B (v := .int (σ 13 2)) pgX2 rfl (fun H h => pgR.x h) 4 (by decide) q_49 rfl rfl dX2_oddCounts_1 ?_
  exact j_iret B hr rfl dX2_oddCounts_4 (Nat.le_of_ble_eq_true rfl) (Nat.le_of_ble_eq_true rfl) () rfl (fun H h => h)
set_option maxHeartbeats 4000000 in
set_option maxRecDepth 100000 in
/-- logged -/
theorem c_X2_logged (l : Launch) (D : va_G) (cD cC cI cZ cL : ClassId) (A : Nat → Prop) (σ : pgSt) (n : Nat) (ad : Nat → Nat)  : Met l yX2_logged (.code yX2_logged cX2_logged 1 (some .int) :: pgWd) ({ frames := 0, cells := 0, slots := 0, locals := 0 } : Room) (pgPc D (pgTys cD cC cI cZ cL) A (pgR D cD cC A σ n ad) [.ref (ad 0)]) (va_Qi (fun (r : Int32) (_ : Unit) => r = σ 13 3) (fun _ t9 => pgR D cD cC A σ n ad t9.heap) A) 0 0 A := by
  refine pg_enter (own := RX2) (by decide) rfl (Nat.le_of_ble_eq_true rfl) (fun p e s m below meth cc9 B hr hnm => ?_)
  refine j_aload_n B dX2_logged_0 0 rfl rfl ?_
  refine j_get B (v := .int (σ 13 3)) pgX2 rfl (fun H h => pgR.x h) 5 (by decide) q_50 rfl rfl dX2_logged_1 ?_
  exact j_iret B hr rfl dX2_logged_4 (Nat.le_of_ble_eq_true rfl) (Nat.le_of_ble_eq_true rfl) () rfl (fun H h => h)
set_option maxHeartbeats 4000000 in
set_option maxRecDepth 100000 in
/-- certificates -/
theorem c_X2_certificates (l : Launch) (D : va_G) (cD cC cI cZ cL : ClassId) (A : Nat → Prop) (σ : pgSt) (n : Nat) (ad : Nat → Nat)  : Met l yX2_certificates (.code yX2_certificates cX2_certificates 1 (some .int) :: pgWd) ({ frames := 0, cells := 0, slots := 0, locals := 0 } : Room) (pgPc D (pgTys cD cC cI cZ cL) A (pgR D cD cC A σ n ad) [.ref (ad 0)]) (va_Qi (fun (r : Int32) (_ : Unit) => r = σ 13 4) (fun _ t9 => pgR D cD cC A σ n ad t9.heap) A) 0 0 A := by
  refine pg_enter (own := RX2) (by decide) rfl (Nat.le_of_ble_eq_true rfl) (fun p e s m below meth cc9 B hr hnm => ?_)
  refine j_aload_n B dX2_certificates_0 0 rfl rfl ?_
  refine j_get B (v := .int (σ 13 4)) pgX2 rfl (fun H h => pgR.x h) 6 (by decide) q_51 rfl rfl dX2_certificates_1 ?_
  exact j_iret B hr rfl dX2_certificates_4 (Nat.le_of_ble_eq_true rfl) (Nat.le_of_ble_eq_true rfl) () rfl (fun H h => h)
end
section
set_option maxHeartbeats 4000000 in
set_option maxRecDepth 100000 in
/-- Shredroll$Crate() -/
theorem c_X0_init (l : Launch) (D : va_G) (cD cC cI cZ cL : ClassId) (A : Nat → Prop) (q : Nat) (hAq : A q) (i : Int32) : Met l yX0_init (.code yX0_init cX0_init 2 none :: pgWd) ({ frames := 1, cells := 0, slots := 0, locals := 12 } : Room) (pgPc D (pgTys cD cC cI cZ cL) A (fun H => va_at D vwCl (q, .inr (0, [.int 0, .int 0, .int 0, .int 0])) H) [.ref q, .int i]) (va_Qv (fun (_ : Unit) => True) (fun _ t9 => (fun H => va_at D vwCl (q, .inr (0, [.int i, .int 0, .int (-1), .int 0])) H) t9.heap) A) 0 0 A := by
  refine pg_enter (own := RX0) (by decide) rfl (Nat.le_of_ble_eq_true rfl) (fun p e s m below meth cc9 B hr hnm => ?_)
  refine j_aload_n B dX0_init_0 0 rfl rfl ?_
  refine j_objInit B q_28 q_18 q_19 dX0_init_1 (Nat.le_of_ble_eq_true rfl) (Nat.le_of_ble_eq_true rfl) ?_
  refine j_aload_n B dX0_init_4 0 rfl rfl ?_
  refine j_iconst B (v := (-1)) dX0_init_5 (by decide) ?_
  refine j_put B (Wd' := fun H => va_at D vwCl (q, .inr (0, [.int 0, .int 0, .int (-1), .int 0])) H) pgX0 tyX0 tyX0_ok nmX0 rfl (fun H h => h) 2 (by decide) q_33 rfl rfl rfl rfl rfl (Nat.le_of_ble_eq_true rfl) dX0_init_6 hAq (fun H H1 h hc hz ho => hc) ?_
  refine j_aload_n B dX0_init_9 0 rfl rfl ?_
  refine j_iload_n B dX0_init_10 1 rfl rfl ?_
  refine j_putF B (Wd' := fun H => va_at D vwCl (q, .inr (0, [.int i, .int 0, .int (-1), .int 0])) H) pgX0 tyX0 tyX0_ok nmX0 rfl (fun H h => h) 0 (by decide) q_29 rfl rfl hnm rfl rfl rfl rfl (Nat.le_of_ble_eq_true rfl) dX0_init_11 hAq (fun H H1 h hc hz ho => hc) ?_
  exact j_vret B hr dX0_init_14 (Nat.le_of_ble_eq_true rfl) (Nat.le_of_ble_eq_true rfl) () trivial (fun H h => h)
set_option maxHeartbeats 4000000 in
set_option maxRecDepth 100000 in
/-- Shredroll$Disk() -/
theorem c_X1_init (l : Launch) (D : va_G) (cD cC cI cZ cL : ClassId) (A : Nat → Prop) (q : Nat) (hAq : A q) (k0 k1 : Int32) : Met l yX1_init (.code yX1_init cX1_init 3 none :: pgWd) ({ frames := 1, cells := 0, slots := 0, locals := 12 } : Room) (pgPc D (pgTys cD cC cI cZ cL) A (fun H => va_at D vwCl (q, .inr (1, [.int 0, .int 0, .int 0, .int 0, .null, .int 0, .int 0, .int 0, .int 0, .int 0, .int 0])) H) [.ref q, .int k0, .int k1]) (va_Qv (fun (_ : Unit) => True) (fun _ t9 => (fun H => va_at D vwCl (q, .inr (1, [.int k0, .int k1, .int 0, .int 0, .null, .int (-1), .int 0, .int (-1), .int 0, .int 0, .int (-1)])) H) t9.heap) A) 0 0 A := by
  refine pg_enter (own := RX1) (by decide) rfl (Nat.le_of_ble_eq_true rfl) (fun p e s m below meth cc9 B hr hnm => ?_)
  refine j_aload_n B dX1_init_0 0 rfl rfl ?_
  refine j_objInit B q_205 q_18 q_19 dX1_init_1 (Nat.le_of_ble_eq_true rfl) (Nat.le_of_ble_eq_true rfl) ?_
  refine j_aload_n B dX1_init_4 0 rfl rfl ?_
  refine j_iconst B (v := (-1)) dX1_init_5 (by decide) ?_
  refine j_put B (Wd' := fun H => va_at D vwCl (q, .inr (1, [.int 0, .int 0, .int 0, .int 0, .null, .int (-1), .int 0, .int 0, .int 0, .int 0, .int 0])) H) pgX1 tyX1 tyX1_ok nmX1 rfl (fun H h => h) 5 (by decide) q_214 rfl rfl rfl rfl rfl (Nat.le_of_ble_eq_true rfl) dX1_init_6 hAq (fun H H1 h hc hz ho => hc) ?_
  refine j_aload_n B dX1_init_9 0 rfl rfl ?_
  refine j_iconst B (v := 0) dX1_init_10 (by decide) ?_
  refine j_put B (Wd' := fun H => va_at D vwCl (q, .inr (1, [.int 0, .int 0, .int 0, .int 0, .null, .int (-1), .int 0, .int 0, .int 0, .int 0, .int 0])) H) pgX1 tyX1 tyX1_ok nmX1 rfl (fun H h => h) 6 (by decide) q_216 rfl rfl rfl rfl rfl (Nat.le_of_ble_eq_true rfl) dX1_init_11 hAq (fun H H1 h hc hz ho => hc) ?_
  refine j_aload_n B dX1_init_14 0 rfl rfl ?_
  refine j_iconst B (v := (-1)) dX1_init_15 (by decide) ?_
  refine j_put B (Wd' := fun H => va_at D vwCl (q, .inr (1, [.int 0, .int 0, .int 0, .int 0, .null, .int (-1), .int 0, .int (-1), .int 0, .int 0, .int 0])) H) pgX1 tyX1 tyX1_ok nmX1 rfl (fun H h => h) 7 (by decide) q_218 rfl rfl rfl rfl rfl (Nat.le_of_ble_eq_true rfl) dX1_init_16 hAq (fun H H1 h hc hz ho => hc) ?_
  refine j_aload_n B dX1_init_19 0 rfl rfl ?_
  refine j_iconst B (v := (-1)) dX1_init_20 (by decide) ?_
  refine j_put B (Wd' := fun H => va_at D vwCl (q, .inr (1, [.int 0, .int 0, .int 0, .int 0, .null, .int (-1), .int 0, .int (-1), .int 0, .int 0, .int (-1)])) H) pgX1 tyX1 tyX1_ok nmX1 rfl (fun H h => h) 10 (by decide) q_224 rfl rfl rfl rfl rfl (Nat.le_of_ble_eq_true rfl) dX1_init_21 hAq (fun H H1 h hc hz ho => hc) ?_
  refine j_aload_n B dX1_init_24 0 rfl rfl ?_
  refine j_iload_n B dX1_init_25 1 rfl rfl ?_
  refine j_putF B (Wd' := fun H => va_at D vwCl (q, .inr (1, [.int k0, .int 0, .int 0, .int 0, .null, .int (-1), .int 0, .int (-1), .int 0, .int 0, .int (-1)])) H) pgX1 tyX1 tyX1_ok nmX1 rfl (fun H h => h) 0 (by decide) q_206 rfl rfl hnm rfl rfl rfl rfl (Nat.le_of_ble_eq_true rfl) dX1_init_26 hAq (fun H H1 h hc hz ho => hc) ?_
  refine j_aload_n B dX1_init_29 0 rfl rfl ?_
  refine j_iload_n B dX1_init_30 2 rfl rfl ?_
  refine j_putF B (Wd' := fun H => va_at D vwCl (q, .inr (1, [.int k0, .int k1, .int 0, .int 0, .null, .int (-1), .int 0, .int (-1), .int 0, .int 0, .int (-1)])) H) pgX1 tyX1 tyX1_ok nmX1 rfl (fun H h => h) 1 (by decide) q_208 rfl rfl hnm rfl rfl rfl rfl (Nat.le_of_ble_eq_true rfl) dX1_init_31 hAq (fun H H1 h hc hz ho => hc) ?_
  exact j_vret B hr dX1_init_34 (Nat.le_of_ble_eq_true rfl) (Nat.le_of_ble_eq_true rfl) () trivial (fun H h => h)
theorem j_re {p : Program} {l : Launch} {e : Env} {R : Room} {s : State} {m : MethodId} {args : Array Value} {below : List Frame} {meth : Method} {c : Code} {nL : Nat} {A : Nat → Prop} {Wd : Heap → Prop} {cells slots : Nat} {Q : State → Prop} {pc : Nat} {L L' : List (Nat × Value)} {st : List Value} (h : L = L') (kk : pgJ p l e R s m args below meth c nL A Wd cells slots Q pc L' st) : pgJ p l e R s m args below meth c nL A Wd cells slots Q pc L st := h ▸ kk
/-- a new disk's places -/
def pgNewD (σ : pgSt) (n : Nat) (kind secr : Int32) : pgSt := fun t j => if (t < 10 ∨ t = 14) ∧ j = n then (if t = 0 then kind else if t = 1 then secr else if t = 3 ∨ t = 6 ∨ t = 7 ∨ t = 9 then -1 else 0) else σ t j
section PGD
variable {D : va_G} {cD cC : ClassId} {A : Nat → Prop} {σ : pgSt} {n : Nat} {ad : Nat → Nat} {H H1 : Heap} {q : Nat} {x : va_E} {kind secr : Int32}
theorem pgFresh_R (h : pgFresh D (pgR D cD cC A σ n ad) q x H) : pgR D cD cC A σ n ad H ∧ va_at D vwCl (q, x) H ∧ ∀ k, k < 13 + n → ad k ≠ q := by
  obtain ⟨H0, h0, e0, -, ho, hx⟩ := h
  refine ⟨h0.more (fun z hz => ho z (by omega)), hx, fun k hk => ?_⟩
  have := h0.lt hk
  omega
theorem pgNewD_o {t j : Nat} (h : j ≠ n) : pgNewD σ n kind secr t j = σ t j := by simp [pgNewD, h]
theorem pgNewD_t {t j : Nat} (h : ¬ (t < 10 ∨ t = 14)) : pgNewD σ n kind secr t j = σ t j := by simp [pgNewD, h]
theorem pgR.push (h : pgR D cD cC A σ n ad H) (hn : n < 60) (hcr : pgCr n σ) (hq : va_at D vwCl (q, .inr (1, [.int kind, .int secr, .int 0, .int 0, .null, .int (-1), .int 0, .int (-1), .int 0, .int 0, .int (-1)])) H) (hne : ∀ k, k < 13 + n → ad k ≠ q) (hA : A q)
    (hb : va_at D vwCl (ad 1, .inl (cD, 60, .inr (.inr (.inr (.inr (va_up (pgBd n ad) n (some q))))))) H1) (ho : ∀ z : Nat, z ≠ ad 1 → H1[z]? = H[z]?) : pgR D cD cC A (pgNewD σ n kind secr) (n + 1) (va_up ad (13 + n) q) H1 := by
  have old : ∀ k, k < 13 + n → va_up ad (13 + n) q k = ad k := fun k hk => va_up_ne _ _ (by omega)
  have new : va_up ad (13 + n) q (13 + n) = q := va_up_self _ _ _
  refine ⟨fun k hk => ?_, fun a b ha hb2 hab => ?_, fun k hk => ?_⟩
  · by_cases e : k = 13 + n
    · subst e
      rw [new, pgO_dk]
      have hz : q ≠ ad 1 := fun z => hne 1 (by omega) z.symm
      have h2 := hq.kept (H1 := H1) (ho q hz)
      have e2 : pgDv (va_up ad (13 + n) q) (pgNewD σ n kind secr) n = [.int kind, .int secr, .int 0, .int 0, .null, .int (-1), .int 0, .int (-1), .int 0, .int 0, .int (-1)] := by
        simp [pgNewD, pgCv]
      rw [e2]
      exact h2
    · have hk2 : k < 13 + n := by omega
      rw [old k hk2]
      by_cases e1 : k = 1
      · subst e1
        have e3 : pgO cD cC (pgNewD σ n kind secr) (n + 1) (va_up ad (13 + n) q) 1 = .inl (cD, 60, .inr (.inr (.inr (.inr (pgBd (n + 1) (va_up ad (13 + n) q)))))) := rfl
        rw [e3]
        refine pg_refs hb (fun j hj => ?_)
        unfold pgBd va_up
        by_cases ej : j = n
        · subst ej
          simp
        · have e4 : 13 + j ≠ 13 + n := by omega
          have e5 : (j < n + 1) = (j < n) := by apply propext; omega
          simp only [ej, e4, e5, if_false]
      · have hka : ad k ≠ ad 1 := fun z => e1 (h.2.1 k 1 hk2 (by omega) z)
        have h3 := (h.1 k hk2).kept (H1 := H1) (ho _ hka)
        by_cases e0 : k = 0
        · subst e0
          have e6 : pgO cD cC (pgNewD σ n kind secr) (n + 1) (va_up ad (13 + n) q) 0 = pgO cD cC σ n ad 0 := by
            show Sum.inr (2, pgXv _ _) = Sum.inr (2, pgXv _ _)
            simp only [pgXv, old 1 (by omega), old 2 (by omega), pgNewD_t (show ¬ (13 < 10 ∨ 13 = 14) by omega)]
          rw [e6]
          exact h3
        · by_cases e2 : k = 2
          · subst e2
            have e7 : pgO cD cC (pgNewD σ n kind secr) (n + 1) (va_up ad (13 + n) q) 2 = .inl (cC, 10, .inr (.inr (.inr (.inr (fun i => some (va_up ad (13 + n) q (3 + i))))))) := rfl
            have e8 : pgO cD cC σ n ad 2 = .inl (cC, 10, .inr (.inr (.inr (.inr (fun i => some (ad (3 + i))))))) := rfl
            rw [e7]
            rw [e8] at h3
            exact pg_refs h3 (fun j hj => by rw [old (3 + j) (by omega)])
          · by_cases e3 : k < 13
            · have e9 : pgO cD cC (pgNewD σ n kind secr) (n + 1) (va_up ad (13 + n) q) k = pgO cD cC σ n ad k := by
                unfold pgO
                simp only [if_neg e0, if_neg e1, if_neg e2, if_pos e3, pgKv, pgNewD_t (show ¬ (10 < 10 ∨ 10 = 14) by omega), pgNewD_t (show ¬ (11 < 10 ∨ 11 = 14) by omega), pgNewD_t (show ¬ (12 < 10 ∨ 12 = 14) by omega)]
              rw [e9]
              exact h3
            · have hj : k - 13 < n := by omega
              have hjn : k - 13 ≠ n := by omega
              have ecv : pgCv (va_up ad (13 + n) q) (σ 3 (k - 13)) = pgCv ad (σ 3 (k - 13)) := by
                rcases hcr _ hj with z | ⟨c, hc, z⟩
                · rw [pgCv_null z, pgCv_null z]
                · rw [pgCv_ref hc z, pgCv_ref hc z, old (3 + c) (by omega)]
              have e9 : pgO cD cC (pgNewD σ n kind secr) (n + 1) (va_up ad (13 + n) q) k = pgO cD cC σ n ad k := by
                unfold pgO
                simp only [if_neg e0, if_neg e1, if_neg e2, if_neg e3, pgDv, pgNewD_o hjn, ecv]
              rw [e9]
              exact h3
  · by_cases ea : a = 13 + n <;> by_cases eb : b = 13 + n
    · omega
    · rw [ea, new, old b (by omega)] at hab
      exact absurd hab.symm (hne b (by omega))
    · rw [eb, new, old a (by omega)] at hab
      exact absurd hab (hne a (by omega))
    · rw [old a (by omega), old b (by omega)] at hab
      exact h.2.1 a b (by omega) (by omega) hab
  · by_cases e : k = 13 + n
    · rw [e, new]; exact hA
    · rw [old k (by omega)]; exact h.2.2 k (by omega)
end PGD
theorem sp_bring_eq {n : Nat} {σ : pgSt} {kind secr keeper : Int32} (hI : pgI n σ) (hk : pgIsK keeper) (h1 : 0 ≤ kind ∧ kind < 3 ∧ 0 ≤ secr ∧ secr < 4) (h2 : σ 13 0 < 60) : sp_bring σ kind secr keeper = (0, σ 13 0, pgHo (pgU (pgNewD σ n kind secr) 13 0 (σ 13 0 + 1)) n keeper) := by
  have hn : ix (σ 13 0) = n := pgI_n hI
  have hz := hI.2.2.2.2.1 n (Nat.le_refl n)
  unfold sp_bring
  rw [if_neg (by simpa using hk), if_neg (by simpa using h1), if_neg (by simpa using h2)]
  congr 2
  funext t j
  simp only [hn, pgHo, pgU, pgNewD]
  grind (splits := 40)
theorem pgI_0 {n : Nat} {σ : pgSt} (hI : pgI n σ) : ¬ σ 13 0 < 0 := by
  rw [hI.2.1]
  exact nI_pos (by have := hI.1; omega)
set_option maxHeartbeats 4000000 in
set_option maxRecDepth 100000 in
/-- bring -/
theorem c_X2_bring (l : Launch) (hl : l.stackTraces = false) (D : va_G) (cD cC cI cZ cL : ClassId) (A : Nat → Prop) (σ : pgSt) (n : Nat) (ad : Nat → Nat) (hI : pgI n σ) (kind secr keeper : Int32) : vx_Met l yX2_bring (.code yX2_bring cX2_bring 6 (some .int) :: pgWd) ({ frames := 7, cells := 3, slots := 23, locals := 102 } : Room) (pgPc D (pgTys cD cC cI cZ cL) A (pgR D cD cC A σ n ad) [.ref (ad 0), .int kind, .int secr, .int keeper]) (va_Qi (fun (r : Int32) (_ : Nat → Nat) => (sp_bring σ kind secr keeper).1 = 0 ∧ r = (sp_bring σ kind secr keeper).2.1) (fun u t9 => pgR D cD cC A ((sp_bring σ kind secr keeper).2.2) (n + 1) u t9.heap) A) (pgX A (fun k => (sp_bring σ kind secr keeper).1 = k ∧ k ≠ 0) (pgR D cD cC A σ n ad)) 3 23 A := by
  refine pg_enterX (own := RX2) (by decide) rfl (Nat.le_of_ble_eq_true rfl) (fun p e s m below meth cc9 B hr hnm ht => ?_)
  refine j_fact (fun H h => pgR.inA h) (fun hIn => ?_)
  refine j_iload_n B dX2_bring_0 3 rfl rfl ?_
  refine j_xSv B 1 [.int keeper] ht (S := Unit) (WdC' := fun _ => pgR D cD cC A σ n ad)  (c_X2_requireKeeper l hl D cD cC cI cZ cL A σ n ad keeper) q_97 q_98 q_1 q_99 hdX2_requireKeeper rfl ⟨Nat.le_of_ble_eq_true rfl, Nat.le_of_ble_eq_true rfl⟩ (Nat.le_of_ble_eq_true rfl) dX2_bring_1 rfl ⟨Nat.le_of_ble_eq_true rfl, Nat.le_of_ble_eq_true rfl⟩ (Nat.le_of_ble_eq_true rfl) (Nat.le_of_ble_eq_true rfl) (fun k h => by obtain ⟨rfl, h9⟩ := h; simp only [sp_bring]; grind) (fun H h => h) (fun u1 hp2 => ?_)
  refine j_iload_n B dX2_bring_4 1 rfl rfl ?_
  refine j_if_lt B 22 dX2_bring_5 (by decide) (fun h3 => ?_) (fun h3 => ?_)
  · exact j_throw (k := 2) pgTA pgTA2 pgTA3 rfl q_169 q_8 rfl B hl ht (is := 29) (text := "kind or secrecy is out of range") (by decide) dX2_bring_22 dX2_bring_25 dX2_bring_26 dX2_bring_28 dX2_bring_31 (Nat.le_of_ble_eq_true rfl) (Nat.le_of_ble_eq_true rfl) (Nat.le_of_ble_eq_true rfl) (Nat.le_of_ble_eq_true rfl) (Nat.le_of_ble_eq_true rfl) (Nat.le_of_ble_eq_true rfl) (by simp only [sp_bring]; grind) (fun H H1 h hq => pgR.more h hq)
  · refine j_iload_n B dX2_bring_8 1 rfl rfl ?_
    refine j_iconst B (v := 3) dX2_bring_9 (by decide) ?_
    refine j_icmp_ge B 22 dX2_bring_10 (by decide) (fun h4 => ?_) (fun h4 => ?_)
    · exact j_throw (k := 2) pgTA pgTA2 pgTA3 rfl q_169 q_8 rfl B hl ht (is := 29) (text := "kind or secrecy is out of range") (by decide) dX2_bring_22 dX2_bring_25 dX2_bring_26 dX2_bring_28 dX2_bring_31 (Nat.le_of_ble_eq_true rfl) (Nat.le_of_ble_eq_true rfl) (Nat.le_of_ble_eq_true rfl) (Nat.le_of_ble_eq_true rfl) (Nat.le_of_ble_eq_true rfl) (Nat.le_of_ble_eq_true rfl) (by simp only [sp_bring]; grind) (fun H H1 h hq => pgR.more h hq)
    · refine j_iload_n B dX2_bring_13 2 rfl rfl ?_
      refine j_if_lt B 22 dX2_bring_14 (by decide) (fun h5 => ?_) (fun h5 => ?_)
      · exact j_throw (k := 2) pgTA pgTA2 pgTA3 rfl q_169 q_8 rfl B hl ht (is := 29) (text := "kind or secrecy is out of range") (by decide) dX2_bring_22 dX2_bring_25 dX2_bring_26 dX2_bring_28 dX2_bring_31 (Nat.le_of_ble_eq_true rfl) (Nat.le_of_ble_eq_true rfl) (Nat.le_of_ble_eq_true rfl) (Nat.le_of_ble_eq_true rfl) (Nat.le_of_ble_eq_true rfl) (Nat.le_of_ble_eq_true rfl) (by simp only [sp_bring]; grind) (fun H H1 h hq => pgR.more h hq)
      · refine j_iload_n B dX2_bring_17 2 rfl rfl ?_
        refine j_iconst B (v := 4) dX2_bring_18 (by decide) ?_
        refine j_icmp_lt B 32 dX2_bring_19 (by decide) (fun h6 => ?_) (fun h6 => ?_)
        · refine j_aload_n B dX2_bring_32 0 rfl rfl ?_
          refine j_get B (v := .int (σ 13 0)) pgX2 rfl (fun H h => pgR.x h) 2 (by decide) q_47 rfl rfl dX2_bring_33 ?_
          refine j_if_lt B 51 dX2_bring_36 (by decide) (fun h7 => (absurd h7 (pgI_0 hI))) (fun h7 => ?_)
          refine j_aload_n B dX2_bring_39 0 rfl rfl ?_
          refine j_get B (v := .int (σ 13 0)) pgX2 rfl (fun H h => pgR.x h) 2 (by decide) q_47 rfl rfl dX2_bring_40 ?_
          refine j_aload_n B dX2_bring_43 0 rfl rfl ?_
          refine j_get B (v := .ref (ad 1)) pgX2 rfl (fun H h => pgR.x h) 0 (by decide) q_45 rfl rfl dX2_bring_44 ?_
          refine j_alen B (fun H h => pgR.bd h) 0 rfl (v := 60) rfl dX2_bring_47 ?_
          refine j_icmp_lt B 61 dX2_bring_48 (by decide) (fun h8 => ?_) (fun h8 => ?_)
          · have hn60 : n < 60 := by
              have q1 : nI n < nI 60 := by rw [← hI.2.1]; assumption
              exact (nI_ltI (a := n) (b := 60) (by have := hI.1; omega) (by omega)).mp q1
            refine j_new B (ci := 1) (fs := [.int 0, .int 0, .int 0, .int 0, .null, .int 0, .int 0, .int 0, .int 0, .int 0, .int 0]) pgX1 tyX1 tyX1_ok q_20 q_201 q_10 rfl (fun j hj => by rcases (show j = 0 ∨ j = 1 ∨ j = 2 ∨ j = 3 ∨ j = 4 ∨ j = 5 ∨ j = 6 ∨ j = 7 ∨ j = 8 ∨ j = 9 ∨ j = 10 by omega) with rfl | rfl | rfl | rfl | rfl | rfl | rfl | rfl | rfl | rfl | rfl <;> rfl) (Nat.le_of_ble_eq_true rfl) (Nat.le_of_ble_eq_true rfl) dX2_bring_61 (fun q hAq => ?_)
            refine j_world (Wd' := fun H => pgR D cD cC A σ n ad H ∧ va_at D vwCl (q, .inr (1, [.int 0, .int 0, .int 0, .int 0, .null, .int 0, .int 0, .int 0, .int 0, .int 0, .int 0])) H ∧ ∀ k, k < 13 + n → ad k ≠ q) (fun H h => pgFresh_R h) ?_
            refine j_fact (fun H h => h.2.2) (fun hne => ?_)
            refine j_dup B dX2_bring_64 rfl ?_
            refine j_iload_n B dX2_bring_65 1 rfl rfl ?_
            refine j_iload_n B dX2_bring_66 2 rfl rfl ?_
            refine j_cIv B (S := Unit) (b := q) 2 [.int kind, .int secr] (WdC' := fun _ H => va_at D vwCl (q, .inr (1, [.int kind, .int secr, .int 0, .int 0, .null, .int (-1), .int 0, .int (-1), .int 0, .int 0, .int (-1)])) H) (fun _ => fun H => pgR D cD cC A σ n ad H ∧ va_at D vwCl (q, .inr (1, [.int kind, .int secr, .int 0, .int 0, .null, .int (-1), .int 0, .int (-1), .int 0, .int 0, .int (-1)])) H ∧ ∀ k, k < 13 + n → ad k ≠ q) (c_X1_init l D cD cC cI cZ cL (fun z => A z ∧ ∀ k, k < 13 + n → z ≠ ad k) q ⟨hAq, fun k hk => (hne k hk).symm⟩ kind secr) q_202 q_203 q_10 q_204 rfl hdX1_init rfl ⟨Nat.le_of_ble_eq_true rfl, Nat.le_of_ble_eq_true rfl⟩ (Nat.le_of_ble_eq_true rfl) dX2_bring_67 rfl ⟨Nat.le_of_ble_eq_true rfl, Nat.le_of_ble_eq_true rfl⟩ (fun z h => h.1) (fun H h z hz hA => ⟨hA, fun k hk9 e => by have := pgR.lt h.1 hk9; omega⟩) (fun H h => h.2.1) (fun H H1 u h hc hz hk => ⟨pgR.kept h.1 (fun k hk9 => hk _ (pgR.lt h.1 hk9) (fun z => z.2 k hk9 rfl)), hc, h.2.2⟩) (fun _ _ => ?_)
            refine j_astore B (L' := [(4, .ref q), (0, .ref (ad 0)), (1, .int kind), (2, .int secr), (3, .int keeper)]) dX2_bring_70 (by decide) rfl ?_
            refine j_aload_n B dX2_bring_72 1 rfl rfl ?_
            refine j_get B (v := .int (σ 13 0)) pgX2 rfl (fun H h => pgR.x h.1) 2 (by decide) q_47 rfl rfl dX2_bring_73 ?_
            refine j_istore B (L' := [(5, .int (σ 13 0)), (4, .ref q), (0, .ref (ad 0)), (1, .int kind), (2, .int secr), (3, .int keeper)]) dX2_bring_76 (by decide) rfl ?_
            refine j_aload_n B dX2_bring_78 2 rfl rfl ?_
            refine j_get B (v := .ref (ad 1)) pgX2 rfl (fun H h => pgR.x h.1) 0 (by decide) q_45 rfl rfl dX2_bring_79 ?_
            refine j_iload B dX2_bring_82 0 rfl ?_
            refine j_aload B dX2_bring_84 1 rfl ?_
            refine j_aast B (Wd' := pgR D cD cC A (pgNewD σ n kind secr) (n + 1) (va_up ad (13 + n) q)) (fun H h => pgR.bd h.1) 0 rfl (fun H h => h.2.1) rfl (by rw [hI.2.1]; exact vp_in_nI hn60 (by omega)) dX2_bring_86 (hIn 1 (by omega)) (fun H H1 h hc hz ho => pgR.push h.1 hn60 hI.2.2.1 h.2.1 hne hAq (by rw [show (σ 13 0).toNatClampNeg = n from pgI_n hI] at hc; exact hc) ho) ?_
            obtain ⟨ad2, had2⟩ : ∃ z, z = va_up ad (13 + n) q := ⟨_, rfl⟩
            have e0 : ad 0 = ad2 0 := by rw [had2]; exact (va_up_ne _ _ (by omega)).symm
            have eq2 : q = ad2 (13 + n) := by rw [had2]; exact (va_up_self _ _ _).symm
            rw [← had2]
            refine j_re (L' := [(5, .int (σ 13 0)), (4, .ref (ad2 (13 + n))), (0, .ref (ad2 0)), (1, .int kind), (2, .int secr), (3, .int keeper)]) (by rw [e0, eq2]) ?_
            refine j_fact (fun H h => pgR.inA h) (fun hIn => ?_)
            refine j_aload_n B dX2_bring_87 2 rfl rfl ?_
            refine j_dup B dX2_bring_88 rfl ?_
            refine j_get B (v := .int ((pgNewD σ n kind secr) 13 0)) pgX2 rfl (fun H h => pgR.x h) 2 (by decide) q_47 rfl rfl dX2_bring_89 ?_
            refine j_iconst B (v := 1) dX2_bring_92 (by decide) ?_
            refine j_iadd B dX2_bring_93 ?_
            refine j_put B (Wd' := pgR D cD cC A (pgU (pgNewD σ n kind secr) 13 0 (((pgNewD σ n kind secr) 13 0) + 1)) (n + 1) ad2) pgX2 tyX2 tyX2_ok nmX2 rfl (fun H h => pgR.x h) 2 (by decide) q_47 rfl rfl rfl rfl rfl (Nat.le_of_ble_eq_true rfl) dX2_bring_94 (hIn 0 (by omega)) (fun H H1 h hc hz ho => pgR.putX h pgXs2 hc ho) ?_
            refine j_aload_n B dX2_bring_97 2 rfl rfl ?_
            refine j_aload B dX2_bring_98 1 rfl ?_
            refine j_iload_n B dX2_bring_100 5 rfl rfl ?_
            refine j_cVv B (S := Unit) 2 [.ref (ad2 (13 + n)), .int keeper] (WdC' := fun _ => pgR D cD cC A (pgHo (pgU (pgNewD σ n kind secr) 13 0 (((pgNewD σ n kind secr) 13 0) + 1)) n keeper) (n + 1) ad2) (fun _ => pgR D cD cC A (pgHo (pgU (pgNewD σ n kind secr) 13 0 (((pgNewD σ n kind secr) 13 0) + 1)) n keeper) (n + 1) ad2) (c_X2_handOver l D cD cC cI cZ cL A (pgU (pgNewD σ n kind secr) 13 0 (((pgNewD σ n kind secr) 13 0) + 1)) (n + 1) ad2 n (Nat.lt_succ_self n) keeper) rfl (fun H h => pgR.x h) q_249 q_251 q_p1 q_1 q_252 hdX2_handOver rfl ⟨Nat.le_of_ble_eq_true rfl, Nat.le_of_ble_eq_true rfl⟩ (Nat.le_of_ble_eq_true rfl) dX2_bring_101 rfl ⟨Nat.le_of_ble_eq_true rfl, Nat.le_of_ble_eq_true rfl⟩ (fun _ h => h) (fun _ _ _ _ h => h) (fun _ h => h) (fun _ _ _ _ h _ _ => h) (fun _ _ => ?_)
            refine j_iload B dX2_bring_104 0 rfl ?_
            have e9 := sp_bring_eq (kind := kind) (secr := secr) (keeper := keeper) hI (by assumption) (by grind) (by assumption)
            exact j_x (j_iret B hr rfl dX2_bring_106 (Nat.le_of_ble_eq_true rfl) (Nat.le_of_ble_eq_true rfl) ad2 ⟨by rw [e9], by rw [e9]⟩ (fun H h => pgR.eq h (by rw [e9]; rfl)))
          · exact j_throw (k := 3) pgTS pgTS2 pgTS3 rfl q_185 q_9 rfl B hl ht (is := 40) (text := "no more disks can be brought") (by decide) dX2_bring_51 dX2_bring_54 dX2_bring_55 dX2_bring_57 dX2_bring_60 (Nat.le_of_ble_eq_true rfl) (Nat.le_of_ble_eq_true rfl) (Nat.le_of_ble_eq_true rfl) (Nat.le_of_ble_eq_true rfl) (Nat.le_of_ble_eq_true rfl) (Nat.le_of_ble_eq_true rfl) (by have q9 := hI; simp only [sp_bring]; grind) (fun H H1 h hq => pgR.more h hq)
        · exact j_throw (k := 2) pgTA pgTA2 pgTA3 rfl q_169 q_8 rfl B hl ht (is := 29) (text := "kind or secrecy is out of range") (by decide) dX2_bring_22 dX2_bring_25 dX2_bring_26 dX2_bring_28 dX2_bring_31 (Nat.le_of_ble_eq_true rfl) (Nat.le_of_ble_eq_true rfl) (Nat.le_of_ble_eq_true rfl) (Nat.le_of_ble_eq_true rfl) (Nat.le_of_ble_eq_true rfl) (Nat.le_of_ble_eq_true rfl) (by simp only [sp_bring]; grind) (fun H H1 h hq => pgR.more h hq)
theorem pgB.ao1 {p : Program} {m : MethodId} {c : Code} {s : State} {args : Array Value} {meth : Method} {own : String} {cc : ByteArray} {nL : Nat} {D : va_G} {tys : List (ClassId × FieldType)} {A : Nat → Prop} (B : pgB p m c s args meth own cc nL D tys A) : va_AO RX1 s := B.2.2.2.2.2.2.2.2.2.2.1.2.1
theorem pgB.ao0 {p : Program} {m : MethodId} {c : Code} {s : State} {args : Array Value} {meth : Method} {own : String} {cc : ByteArray} {nL : Nat} {D : va_G} {tys : List (ClassId × FieldType)} {A : Nat → Prop} (B : pgB p m c s args meth own cc nL D tys A) : va_AO RX0 s := B.2.2.2.2.2.2.2.2.2.2.1.2.2
def pgS0 : pgSt := fun t j => if t = 11 ∧ j < 10 then -1 else 0
/-- the object with its two arrays and i crates -/
def pgR0 (D : va_G) (cD cC : ClassId) (A : Nat → Prop) (ad : Nat → Nat) (i : Nat) (H : Heap) : Prop :=
  va_at D vwCl (ad 0, .inr (2, [.ref (ad 1), .ref (ad 2), .int 0, .int 0, .int 0, .int 0, .int 0])) H ∧ va_at D vwCl (ad 1, .inl (cD, 60, .inr (.inr (.inr (.inr (fun _ => none)))))) H ∧ va_at D vwCl (ad 2, .inl (cC, 10, .inr (.inr (.inr (.inr (fun j => if j < i then some (ad (3 + j)) else none)))))) H ∧ (∀ c, c < i → va_at D vwCl (ad (3 + c), .inr (0, [.int (nI c), .int 0, .int (-1), .int 0])) H) ∧ (∀ a b, a < 3 + i → b < 3 + i → ad a = ad b → a = b) ∧ (∀ k, k < 3 + i → A (ad k))
theorem pgR0.lt {D : va_G} {cD cC : ClassId} {A : Nat → Prop} {ad : Nat → Nat} {i : Nat} {H : Heap} (h : pgR0 D cD cC A ad i H) : ∀ k, k < 3 + i → ad k < H.size := by
  intro k hk
  by_cases h0 : k = 0
  · subst h0; exact h.1.lt
  · by_cases h1 : k = 1
    · subst h1; exact h.2.1.lt
    · by_cases h2 : k = 2
      · subst h2; exact h.2.2.1.lt
      · have := (h.2.2.2.1 (k - 3) (by omega)).lt
        rw [show 3 + (k - 3) = k by omega] at this
        exact this
theorem pgR0.kept {D : va_G} {cD cC : ClassId} {A : Nat → Prop} {ad : Nat → Nat} {i : Nat} {H H1 : Heap} (h : pgR0 D cD cC A ad i H) (hq : ∀ k, k < 3 + i → H1[ad k]? = H[ad k]?) : pgR0 D cD cC A ad i H1 :=
  ⟨h.1.kept (hq 0 (by omega)), h.2.1.kept (hq 1 (by omega)), h.2.2.1.kept (hq 2 (by omega)), fun c hc => (h.2.2.2.1 c hc).kept (hq (3 + c) (by omega)), h.2.2.2.2⟩
theorem pgR0.push {D : va_G} {cD cC : ClassId} {A : Nat → Prop} {ad : Nat → Nat} {i q : Nat} {H H1 : Heap} (h : pgR0 D cD cC A ad i H) (hq : va_at D vwCl (q, .inr (0, [.int (nI i), .int 0, .int (-1), .int 0])) H) (hne : ∀ k, k < 3 + i → ad k ≠ q) (hA : A q) (hb : va_at D vwCl (ad 2, .inl (cC, 10, .inr (.inr (.inr (.inr (va_up (fun j => if j < i then some (ad (3 + j)) else none) i (some q))))))) H1) (ho : ∀ z : Nat, z ≠ ad 2 → H1[z]? = H[z]?) : pgR0 D cD cC A (va_up ad (3 + i) q) (i + 1) H1 := by
  have old : ∀ k, k < 3 + i → va_up ad (3 + i) q k = ad k := fun k hk => va_up_ne _ _ (by omega)
  have new : va_up ad (3 + i) q (3 + i) = q := va_up_self _ _ _
  have k2 : ∀ k, k < 3 + i → k ≠ 2 → H1[ad k]? = H[ad k]? := fun k hk h2 => ho _ (fun z => h2 (h.2.2.2.2.1 k 2 hk (by omega) z))
  refine ⟨?_, ?_, ?_, fun c hc => ?_, fun a b ha hb2 hab => ?_, fun k hk => ?_⟩
  · rw [old 0 (by omega), old 1 (by omega), old 2 (by omega)]
    exact h.1.kept (k2 0 (by omega) (by omega))
  · rw [old 1 (by omega)]
    exact h.2.1.kept (k2 1 (by omega) (by omega))
  · rw [old 2 (by omega)]
    refine pg_refs hb (fun j hj => ?_)
    unfold va_up
    by_cases e : j = i
    · subst e; simp
    · have e4 : 3 + j ≠ 3 + i := by omega
      have e5 : (j < i + 1) = (j < i) := by apply propext; omega
      simp only [e, e4, e5, if_false]
  · by_cases e : c = i
    · subst e
      rw [new]
      exact hq.kept (ho q (fun z => hne 2 (by omega) z.symm))
    · rw [old (3 + c) (by omega)]
      exact (h.2.2.2.1 c (by omega)).kept (k2 (3 + c) (by omega) (by omega))
  · by_cases ea : a = 3 + i <;> by_cases eb : b = 3 + i
    · omega
    · rw [ea, new, old b (by omega)] at hab
      exact absurd hab.symm (hne b (by omega))
    · rw [eb, new, old a (by omega)] at hab
      exact absurd hab (hne a (by omega))
    · rw [old a (by omega), old b (by omega)] at hab
      exact h.2.2.2.2.1 a b (by omega) (by omega) hab
  · by_cases e : k = 3 + i
    · rw [e, new]; exact hA
    · rw [old k (by omega)]; exact h.2.2.2.2.2 k (by omega)
theorem pgR0.done {D : va_G} {cD cC : ClassId} {A : Nat → Prop} {ad : Nat → Nat} {H : Heap} (h : pgR0 D cD cC A ad 10 H) : pgR D cD cC A pgS0 0 ad H := by
  refine ⟨fun k hk => ?_, h.2.2.2.2.1, h.2.2.2.2.2⟩
  by_cases h0 : k = 0
  · subst h0; exact h.1
  · by_cases h1 : k = 1
    · subst h1
      exact pg_refs h.2.1 (fun j hj => by simp)
    · by_cases h2 : k = 2
      · subst h2
        exact pg_refs h.2.2.1 (fun j hj => by simp [hj])
      · have h3 := h.2.2.2.1 (k - 3) (by omega)
        rw [show 3 + (k - 3) = k by omega] at h3
        have e : pgO cD cC pgS0 0 ad k = .inr (0, [.int (nI (k - 3)), .int 0, .int (-1), .int 0]) := by
          unfold pgO
          rw [if_neg h0, if_neg h1, if_neg h2, if_pos (by omega)]
          simp [pgS0, show k - 3 < 10 by omega]
        rw [e]
        exact h3
theorem pgFresh_R0 {D : va_G} {cD cC : ClassId} {A : Nat → Prop} {ad : Nat → Nat} {i q : Nat} {x : va_E} {H : Heap} (h : pgFresh D (pgR0 D cD cC A ad i) q x H) : pgR0 D cD cC A ad i H ∧ va_at D vwCl (q, x) H ∧ ∀ k, k < 3 + i → ad k ≠ q := by
  obtain ⟨H0, h0, e0, -, ho, hx⟩ := h
  refine ⟨h0.kept (fun k hk => ho _ (by have := h0.lt k hk; omega)), hx, fun k hk => ?_⟩
  have := h0.lt k hk
  omega
theorem j_loopC {p : Program} {l : Launch} {e : Env} {R : Room} {s : State} {m : MethodId} {args : Array Value} {below : List Frame} {meth : Method} {c : Code} {nL : Nat} {A : Nat → Prop} {Q : State → Prop} {pc : Nat} {st : List Value} {X : Type} {N : Nat} (ce sl : Nat → Nat) (inv : Nat → X → Prop) (WdX : Nat → X → Heap → Prop) (LX : Nat → X → List (Nat × Value)) (step : ∀ (i : Nat) (x : X), i ≤ N → inv i x → (i < N → ∀ x2 : X, inv (i + 1) x2 → pgJ p l e R s m args below meth c nL A (WdX (i + 1) x2) (ce (i + 1)) (sl (i + 1)) Q pc (LX (i + 1) x2) st) → pgJ p l e R s m args below meth c nL A (WdX i x) (ce i) (sl i) Q pc (LX i x) st) : ∀ (i : Nat) (x : X), i ≤ N → inv i x → pgJ p l e R s m args below meth c nL A (WdX i x) (ce i) (sl i) Q pc (LX i x) st := by
  have key : ∀ (f i : Nat) (x : X), i ≤ N → N ≤ i + f → inv i x → pgJ p l e R s m args below meth c nL A (WdX i x) (ce i) (sl i) Q pc (LX i x) st := by
    intro f
    induction f with
    | zero =>
      intro i x h1 h2 h3
      exact step i x h1 h3 (fun h => by omega)
    | succ f ih =>
      intro i x h1 h2 h3
      exact step i x h1 h3 (fun h x2 hx2 => ih (i + 1) x2 (by omega) (by omega) hx2)
  exact fun i x h1 h3 => key N i x h1 (by omega) h3
set_option maxHeartbeats 4000000 in
set_option maxRecDepth 100000 in
/-- Shredroll() -/
theorem c_X2_init (l : Launch) (D : va_G) (cD cC cI cZ cL : ClassId) (A : Nat → Prop) (q : Nat) (hAq : A q) : Met l yX2_init (.code yX2_init cX2_init 2 none :: pgWd) ({ frames := 2, cells := 12, slots := 117, locals := 33 } : Room) (pgPc D (pgTys cD cC cI cZ cL) A (fun H => va_at D vwCl (q, .inr (2, [.null, .null, .int 0, .int 0, .int 0, .int 0, .int 0])) H) [.ref q]) (va_Qv (fun (u : Nat → Nat) => u 0 = q) (fun u t9 => pgR D cD cC A pgS0 0 u t9.heap) A) 12 117 A := by
  refine pg_enter (own := RX2) (by decide) rfl (Nat.le_of_ble_eq_true rfl) (fun p e s m below meth cc9 B hr hnm => ?_)
  refine j_aload_n B dX2_init_0 0 rfl rfl ?_
  refine j_objInit B q_17 q_18 q_19 dX2_init_1 (Nat.le_of_ble_eq_true rfl) (Nat.le_of_ble_eq_true rfl) ?_
  refine j_aload_n B dX2_init_4 0 rfl rfl ?_
  refine j_bipush B (v := 60) dX2_init_5 (by decide) ?_
  refine j_anew B (N := 60) q_20 B.ao1 0 rfl (by decide) (by decide) (Nat.le_of_ble_eq_true rfl) (Nat.le_of_ble_eq_true rfl) (Nat.le_of_ble_eq_true rfl) dX2_init_7 (fun q1 hA1 => ?_)
  refine j_world (Wd' := fun H => va_at D vwCl (q, .inr (2, [.null, .null, .int 0, .int 0, .int 0, .int 0, .int 0])) H ∧ va_at D vwCl (q1, .inl (cD, 60, .inr (.inr (.inr (.inr (fun _ => none)))))) H ∧ q ≠ q1) (fun H h => ?_) ?_
  · obtain ⟨H0, h0, e0, -, ho, hx⟩ := h
    have l0 := h0.lt
    exact ⟨h0.kept (ho q (by rw [← e0]; exact l0)), hx, by rw [← e0]; exact Nat.ne_of_lt l0⟩
  refine j_fact (fun H h => h.2.2) (fun hq1 => ?_)
  refine j_putF B (Wd' := fun H => va_at D vwCl (q, .inr (2, [.ref q1, .null, .int 0, .int 0, .int 0, .int 0, .int 0])) H ∧ va_at D vwCl (q1, .inl (cD, 60, .inr (.inr (.inr (.inr (fun _ => none)))))) H ∧ q ≠ q1) pgX2 tyX2 tyX2_ok nmX2 rfl (fun H h => h.1) 0 (by decide) q_45 rfl rfl hnm rfl rfl rfl rfl (Nat.le_of_ble_eq_true rfl) dX2_init_10 hAq (fun H H1 h hc hz ho => ⟨hc, h.2.1.kept (ho _ hq1.symm), hq1⟩) ?_
  refine j_aload_n B dX2_init_13 0 rfl rfl ?_
  refine j_bipush B (v := 10) dX2_init_14 (by decide) ?_
  refine j_anew B (N := 10) q_22 B.ao0 1 rfl (by decide) (by decide) (Nat.le_of_ble_eq_true rfl) (Nat.le_of_ble_eq_true rfl) (Nat.le_of_ble_eq_true rfl) dX2_init_16 (fun q2 hA2 => ?_)
  refine j_world (Wd' := fun H => (va_at D vwCl (q, .inr (2, [.ref q1, .null, .int 0, .int 0, .int 0, .int 0, .int 0])) H ∧ va_at D vwCl (q1, .inl (cD, 60, .inr (.inr (.inr (.inr (fun _ => none)))))) H) ∧ va_at D vwCl (q2, .inl (cC, 10, .inr (.inr (.inr (.inr (fun _ => none)))))) H ∧ q ≠ q1 ∧ q ≠ q2 ∧ q1 ≠ q2) (fun H h => ?_) ?_
  · obtain ⟨H0, h0, e0, -, ho, hx⟩ := h
    have l0 : q < q2 := by rw [← e0]; exact h0.1.lt
    have l1 : q1 < q2 := by rw [← e0]; exact h0.2.1.lt
    exact ⟨⟨h0.1.kept (ho q l0), h0.2.1.kept (ho q1 l1)⟩, hx, hq1, Nat.ne_of_lt l0, Nat.ne_of_lt l1⟩
  refine j_fact (fun H h => h.2.2) (fun hq2 => ?_)
  refine j_putF B (Wd' := fun H => (va_at D vwCl (q, .inr (2, [.ref q1, .ref q2, .int 0, .int 0, .int 0, .int 0, .int 0])) H ∧ va_at D vwCl (q1, .inl (cD, 60, .inr (.inr (.inr (.inr (fun _ => none)))))) H) ∧ va_at D vwCl (q2, .inl (cC, 10, .inr (.inr (.inr (.inr (fun _ => none)))))) H ∧ q ≠ q1 ∧ q ≠ q2 ∧ q1 ≠ q2) pgX2 tyX2 tyX2_ok nmX2 rfl (fun H h => h.1.1) 1 (by decide) q_46 rfl rfl hnm rfl rfl rfl rfl (Nat.le_of_ble_eq_true rfl) dX2_init_19 hAq (fun H H1 h hc hz ho => ⟨⟨hc, h.1.2.kept (ho _ hq1.symm)⟩, h.2.1.kept (ho _ hq2.2.1.symm), hq2⟩) ?_
  refine j_iconst B (v := 0) dX2_init_22 (by decide) ?_
  refine j_istore_n B (L' := [(1, .int 0), (0, .ref q)]) dX2_init_23 rfl (by decide) rfl ?_
  refine j_world (Wd' := pgR0 D cD cC A (fun k => if k = 0 then q else if k = 1 then q1 else q2) 0) (fun H h => ?_) ?_
  · refine ⟨h.1.1, h.1.2, pg_refs h.2.1 (fun j hj => by simp), fun c hc => by omega, fun a b ha hb hab => ?_, fun k hk => ?_⟩
    · have z1 : q ≠ q1 := hq2.1
      have z2 : q ≠ q2 := hq2.2.1
      have z3 : q1 ≠ q2 := hq2.2.2
      rcases (show a = 0 ∨ a = 1 ∨ a = 2 by omega) with rfl | rfl | rfl <;> rcases (show b = 0 ∨ b = 1 ∨ b = 2 by omega) with rfl | rfl | rfl <;> simp at hab ⊢ <;> omega
    · rcases (show k = 0 ∨ k = 1 ∨ k = 2 by omega) with rfl | rfl | rfl
      · exact hAq
      · exact hA1
      · exact hA2
  refine j_loopC (N := 10) (X := Nat → Nat) (fun i => 2 + i) (fun i => 70 + 4 * i) (fun i x => x 0 = q) (fun i x => pgR0 D cD cC A x i) (fun i x => [(1, .int (nI i)), (0, .ref q)]) (fun i x hi hv ih => ?_) 0 _ (by omega) rfl
  subst hv
  refine j_iload_n B dX2_init_24 0 rfl rfl ?_
  refine j_bipush B (v := 10) dX2_init_25 (by decide) ?_
  refine j_icmp_ge B 50 dX2_init_27 (by decide) (fun h1 => ?_) (fun h1 => ?_)
  · obtain rfl := pg_eqN hi (by omega) h1
    exact j_vret B hr dX2_init_50 (show 2 + 10 ≤ 12 by omega) (show 70 + 4 * 10 ≤ 117 by omega) x rfl (fun H h => pgR0.done h)
  · have hlt := pg_ltN (N := 10) (by omega) hi h1
    refine j_fact (fun H h => h.2.2.2.2.2 2 (by omega)) (fun hA2x => ?_)
    refine j_aload_n B dX2_init_30 1 rfl rfl ?_
    refine j_get B (v := .ref (x 2)) pgX2 rfl (fun H h => h.1) 1 (by decide) q_46 rfl rfl dX2_init_31 ?_
    refine j_iload_n B dX2_init_34 0 rfl rfl ?_
    refine j_new B (ci := 0) (fs := [.int 0, .int 0, .int 0, .int 0]) pgX0 tyX0 tyX0_ok q_22 q_24 q_2 rfl (fun j hj => by rcases (show j = 0 ∨ j = 1 ∨ j = 2 ∨ j = 3 by omega) with rfl | rfl | rfl | rfl <;> rfl) (show 2 + i + 1 ≤ 12 by omega) (show 70 + 4 * i + 4 ≤ 117 by omega) dX2_init_35 (fun q3 hA3 => ?_)
    refine j_world (Wd' := fun H => pgR0 D cD cC A x i H ∧ va_at D vwCl (q3, .inr (0, [.int 0, .int 0, .int 0, .int 0])) H ∧ ∀ k, k < 3 + i → x k ≠ q3) (fun H h => pgFresh_R0 h) ?_
    refine j_fact (fun H h => h.2.2) (fun hne => ?_)
    refine j_dup B dX2_init_38 rfl ?_
    refine j_iload_n B dX2_init_39 0 rfl rfl ?_
    refine j_cIv B (S := Unit) (b := q3) 1 [.int (nI i)] (WdC' := fun _ H => va_at D vwCl (q3, .inr (0, [.int (nI i), .int 0, .int (-1), .int 0])) H) (fun _ => fun H => pgR0 D cD cC A x i H ∧ va_at D vwCl (q3, .inr (0, [.int (nI i), .int 0, .int (-1), .int 0])) H ∧ ∀ k, k < 3 + i → x k ≠ q3) (c_X0_init l D cD cC cI cZ cL (fun z => A z ∧ ∀ k, k < 3 + i → z ≠ x k) q3 ⟨hA3, fun k hk => (hne k hk).symm⟩ (nI i)) q_25 q_26 q_2 q_27 rfl hdX0_init rfl ⟨Nat.le_of_ble_eq_true rfl, Nat.le_of_ble_eq_true rfl⟩ (Nat.le_of_ble_eq_true rfl) dX2_init_40 rfl ⟨(show 2 + i + 1 + 0 ≤ 12 by omega), (show 70 + 4 * i + 4 + 0 ≤ 117 by omega)⟩ (fun z h => h.1) (fun H h z hz hA => ⟨hA, fun k hk9 e => by have := pgR0.lt h.1 k hk9; omega⟩) (fun H h => h.2.1) (fun H H1 u h hc hz hk => ⟨pgR0.kept h.1 (fun k hk9 => hk _ (pgR0.lt h.1 k hk9) (fun z => z.2 k hk9 rfl)), hc, h.2.2⟩) (fun _ _ => ?_)
    refine j_aast B (Wd' := pgR0 D cD cC A (va_up x (3 + i) q3) (i + 1)) (fun H h => h.1.2.2.1) 1 rfl (fun H h => h.2.1) rfl (vp_in_nI hlt (by omega)) dX2_init_43 (hA2x) (fun H H1 h hc hz ho => pgR0.push h.1 h.2.1 hne hA3 (by rw [show (nI i).toNatClampNeg = i from nI_clamp (by omega)] at hc; exact hc) ho) ?_
    refine j_iinc B (v := nI (i + 1)) (L' := [(1, .int (nI (i + 1))), (0, .ref (x 0))]) dX2_init_44 0 rfl (nI_1 i) (by decide) rfl ?_
    refine j_goto B 24 dX2_init_47 (by decide) ?_
    refine j_widen (k := 2 + (i + 1)) (n := 70 + 4 * (i + 1)) (show 2 + i + 1 + 0 ≤ 2 + (i + 1) by omega) (show 70 + 4 * i + 4 + 0 ≤ 70 + 4 * (i + 1) by omega) ?_
    exact ih hlt (va_up x (3 + i) q3) (va_up_ne _ _ (by omega))
end
section
/-- the words of a throw of X, whose own constructor's bytes are rx and call the one above by place ix -/
def pgNA (own : String) (ic : Nat) (X Y : String) (ix : Nat) (rx : ByteArray) (names : List String) : List Cond :=
  Bundle.throwableAtoms ++ Bundle.throwableSAtoms ++ (Bundle.passSAtoms X Y ix rx ++ Bundle.chainSAtoms Y names) ++
  [.methodLink own ic (Bundle.initS X), .instantiable X 6, .castable X X, .selects X Bundle.tFill0 Bundle.tFill0, .selects X Bundle.tFill Bundle.tFill,
   .lays X Bundle.tN "cause" "Ljava/lang/Throwable;", .lays X Bundle.tN "stackTrace" Bundle.steD, .lays X Bundle.tN "suppressedExceptions" Bundle.listD, .lays X Bundle.tN "detailMessage" "Ljava/lang/String;",
   .isRef (.static Bundle.tN "UNASSIGNED_STACK" Bundle.steD), .isRef (.static Bundle.tN "SUPPRESSED_SENTINEL" Bundle.listD),
   .fieldLink Bundle.tN 198 Bundle.tN "backtrace" "Ljava/lang/Object;", .lays Bundle.tN Bundle.tN "backtrace" "Ljava/lang/Object;", .lays X Bundle.tN "backtrace" "Ljava/lang/Object;"]
section PGX
variable {p : Program} {l : Launch} {e : Env} {R : Room} {s : State} {m₀ : MethodId} {args : Array Value} {below : List Frame} {meth : Method} {c : Code} {W : State} {locs : List Loc} {cells slots : Nat}
set_option maxHeartbeats 4000000 in
/-- the exception is made and thrown (it follows the library's own proof for a constructor by place 7, Stand.ctorThrowS, with the first link's place and bytes left open and of the new cell only what a handler asks) -/
theorem pg_ctorN (X : Stand p l e R s m₀ args below meth c W locs cells slots) (hexec : p.tables.exec = Jvm.exec) (htr : e.platform.stackTraces = false) {own cls Y0 : String} {names : List String} {ic ix : Nat} {rx : ByteArray} (x0 : decode rx 0 = .ok (.aload_n 0, 1)) (x1 : decode rx 1 = .ok (.aload_n 1, 1)) (x2 : decode rx 2 = .ok (.invokespecial ix, 3)) (x5 : decode rx 5 = .ok (.return_, 1))
    (hown : s.vm.findClass own = some m₀.cls) (hcls : Bundle.fit cls = true) (hY0 : Bundle.fit Y0 = true) (hnames : ∀ n ∈ names, Bundle.fit n = true) (h : ∀ a ∈ pgNA own ic cls Y0 ix rx names, a.before args s = true) (hlocs : ∀ x ∈ locs, ∀ cell, s.heap[x.base]? = some cell → cell.vm.isStatics = false)
    {a : Addr} {cX : ClassId} {kX : Class} (hfoundX : s.vm.findClass cls = some cX) (hkX : s.vm.classes[cX]? = some kX) (hcell : W.heap[a]? = some (freshCell cX kX)) (hnew : s.heap.size ≤ a) {msg : Value} (hmsg : msg.isRef = true)
    {g : JFrame} (hg : g.method = m₀) (hsize : g.locals.size = c.maxLocals) (hlocked : g.locked = none) (hentered : g.entered = []) {rest : List Value} (hstack : g.stack = msg :: .ref a :: .ref a :: rest)
    (hd6 : decode c.code g.pc = .ok (.invokespecial ic, 3)) (hd9 : decode c.code (g.pc + 3) = .ok (.athrow, 1)) (hout : ∀ x ∈ c.exceptionTable.toList, covers x (g.pc + 3) = false)
    (hRframes : names.length + 4 < R.frames) (hRlocals : 2 * g.monitorRoom + ((Value.ref a :: rest).map fun v => v.category).sum + (13 * (names.length + 2) + 42) ≤ R.locals) (hlocks : meth.locks = false) :
    ∃ U : State, Steps p.tables e below (W.setTop g) U ∧ U.status = .running ∧ Ended U below (.threw a) ∧ s.WarmedH U.vm ∧ s.sameButNew ({ U with vm := s.vm } : State) locs cells slots ∧ ∃ ce, U.heap[a]? = some ce ∧ ce.vm = .none ∧ s.vm.findClass cls = some ce.cls := by
  have howns : e.platform.frameOwnsMonitors = true := by rw [X.admits.platform]
  have hfin : e.platform.finalization = false := by rw [X.admits.platform]
  have hpl : e.platform.magicAccessors = ({} : Platform).magicAccessors := by rw [X.admits.platform]
  have a' : ∀ x, x ∈ pgNA own ic cls Y0 ix rx names → x.holds args s none s [] = true := fun x hx => h x hx
  obtain ⟨T, Z0, L, -, Y⟩ := ThrowableC.of_atoms (args := args) howns hfin hpl (fun x hx => h x (by simp [pgNA, hx]))
  obtain ⟨Z, M, LZ, LM, hnZ⟩ := Init0T.ofS_atoms (args := args) hpl L Y (fun x hx => h x (by simp [pgNA, hx]))
  obtain ⟨P0, Q0, hm0, hs0⟩ := PassC.ofS_atoms (args := args) (s := s) hpl (X := cls) (Y := Y0) (Bundle.fit_spec hcls).1 (Bundle.fit_spec hY0).2 x0 x1 x2 x5 (fun x hx => h x (by simp [pgNA, hx]))
  obtain ⟨P1, Ps, hlen, L1, hL, hP1m, hlink1, hlink⟩ := Bundle.chainS (args := args) hpl hnZ names Y0 hY0 hnames (fun x hx => h x (by simp [pgNA, hx]))
  have hsup0 : P0.sup = P1.m := Option.some.inj (hs0.symm.trans hP1m)
  have hfound : s.vm.findClass cls = some P0.m.cls := findClass_of_methodNamed hm0
  cases Option.some.inj (hfoundX.symm.trans hfound)
  obtain ⟨c1, kX', hc1, hk, hord, -, -, hn6⟩ := Cond.instantiable_spec (a' (.instantiable cls 6) (by simp [pgNA]))
  cases Option.some.inj (hc1.symm.trans hfound)
  cases Option.some.inj (hkX.symm.trans hk)
  have hsel0 : selectMethod e.platform s.vm P0.m.cls T.fill0 = .method T.fill0 := by
    obtain ⟨c2, r2, m2, q1, q2, q3, q4, -⟩ := Cond.selects_spec (a' (.selects cls Bundle.tFill0 Bundle.tFill0) (by simp [pgNA]))
    cases Option.some.inj (q1.symm.trans hfound)
    cases Option.some.inj (q2.symm.trans (State.methodFound?_of_named Y.fill0 (by decide)))
    cases Option.some.inj (q3.symm.trans Y.fill0)
    rw [Launch.admits_selectMethod X.admits]; exact q4
  have hselF : selectMethod e.platform s.vm P0.m.cls T.fill = .method T.fill := by
    obtain ⟨c2, r2, m2, q1, q2, q3, q4, -⟩ := Cond.selects_spec (a' (.selects cls Bundle.tFill Bundle.tFill) (by simp [pgNA]))
    cases Option.some.inj (q1.symm.trans hfound)
    cases Option.some.inj (q2.symm.trans (State.methodFound?_of_named Y.fill (by decide)))
    cases Option.some.inj (q3.symm.trans Y.fill)
    rw [Launch.admits_selectMethod X.admits]; exact q4
  obtain ⟨cellS0, hcS0, hiss⟩ := Y.statics
  obtain ⟨u0, hu0⟩ := Cond.staticRefV Y.unassigned L.unassignedStatic L.statics hcS0 hiss (a' (.isRef (.static Bundle.tN "UNASSIGNED_STACK" Bundle.steD)) (by simp [pgNA]))
  obtain ⟨sen, hsen⟩ := Cond.staticRefV Y.sentinel L.sentinelStatic L.statics hcS0 hiss (a' (.isRef (.static Bundle.tN "SUPPRESSED_SENTINEL" Bundle.listD)) (by simp [pgNA]))
  obtain ⟨ci198, i198, fB, hk198, hg198, ha198, hsB, -, hnB, htB, hffB⟩ := Cond.ownField (t := .object "java/lang/Object") Y.found L.cls (by decide +kernel) (a' (.fieldLink Bundle.tN 198 Bundle.tN "backtrace" "Ljava/lang/Object;") (by simp [pgNA])) (a' (.lays Bundle.tN Bundle.tN "backtrace" "Ljava/lang/Object;") (by simp [pgNA])) e.platform hpl
  obtain ⟨cellS, hcS', heS, -, hkeep⟩ := X.same.2.2.2.2.2 T.aS cellS0 hcS0
  have hcellS : W.heap[T.aS]? = some cellS := hcS'
  have hout' : ∀ i, (⟨T.aS, i⟩ : Loc) ∉ locs := fun i hmem => by
    have := hlocs _ hmem cellS0 hcS0
    rw [hiss] at this; cases this
  have hknownS : cellS.vm ≠ .unknown := by
    rw [heS]; intro hu
    rw [show cellS0.vm = .unknown from hu] at hiss
    cases hiss
  have hneS : T.aS ≠ a := Nat.ne_of_lt (Nat.lt_of_lt_of_le (Array.getElem?_eq_some_iff.mp hcS0).1 hnew)
  obtain ⟨iM, hffM⟩ := Y.msg
  obtain ⟨tyC, dC, hdC, hdnC⟩ := Cond.laysAt hfound hk Y.cause (a' (.lays cls Bundle.tN "cause" "Ljava/lang/Throwable;") (by simp [pgNA]))
  obtain ⟨tyS, dS, hdS, hdnS⟩ := Cond.laysAt hfound hk Y.stack (a' (.lays cls Bundle.tN "stackTrace" Bundle.steD) (by simp [pgNA]))
  obtain ⟨tyP, dP, hdP, hdnP⟩ := Cond.laysAt hfound hk Y.supp (a' (.lays cls Bundle.tN "suppressedExceptions" Bundle.listD) (by simp [pgNA]))
  obtain ⟨tyM, dM, hdM, hdnM⟩ := Cond.laysAt hfound hk hffM (a' (.lays cls Bundle.tN "detailMessage" "Ljava/lang/String;") (by simp [pgNA]))
  obtain ⟨tyB, dB, hdB, hdnB⟩ := Cond.laysAt hfound hk hffB (a' (.lays cls Bundle.tN "backtrace" "Ljava/lang/Object;") (by simp [pgNA]))
  have bC := Cond.laysApart hdB hdC hdnB hdnC (by rw [hnB, Y.causeName]; decide)
  have bS := Cond.laysApart hdB hdS hdnB hdnS (by rw [hnB, Y.stackName]; decide)
  have bP := Cond.laysApart hdB hdP hdnB hdnP (by rw [hnB, Y.suppName]; decide)
  have hskip : SkipFacts T e.platform s (fun u => u) u0 ((preparedCellV T.toThrowableT (freshCell P0.m.cls kX) a u0 sen).withEntry W.cur) :=
    ⟨{ ci198 := ci198, i198 := i198, fBack := fB }, ⟨hk198, hg198, ha198, hsB⟩, by
      have := fresh_default (c := P0.m.cls) tyB
      rw [htB] at this
      simpa [preparedCellV, Cell.setSlot, Cell.withEntry, Array.getElem?_setIfInBounds, bC, bS, bP, bC.symm, bS.symm, bP.symm, defaultValue] using this, fun _ _ => rfl⟩
  obtain ⟨tm, methC, cdC, kC, vm₁, hnC, -, -, -, -, -, -, -, hW₁, st1⟩ := Steps.initColdS (tb := p.tables) (e := e) (below := below) (s := s) (U := W) X.here hexec X.warmed hpl hown (t := Bundle.initS cls) rfl rfl (Bundle.fit_spec hcls).2
    (a' (.methodLink own ic (Bundle.initS cls)) (by simp [pgNA])) (h (.instanceMethod (Bundle.initS cls)) (by simp [pgNA, Bundle.passSAtoms])) (bytes := rx) (maxL := 2) (h (.code (Bundle.initS cls) rx 2 none) (by simp [pgNA, Bundle.passSAtoms]))
    (f := g) hg (a := a) (msg := msg) (rest := .ref a :: rest) hstack hd6
  cases Option.some.inj (hnC.symm.trans hm0)
  have X₁ := X.noted hW₁
  obtain ⟨vm₂, X₂, st2⟩ := X₁.ctorMessageOffV hexec (g := { g with stack := .ref a :: rest }) hg hsize T L Z LZ M LM (P0 :: P1 :: Ps)
    (fun P hP => by
      rcases List.mem_cons.mp hP with rfl | hP
      · exact Q0
      · rcases List.mem_cons.mp hP with rfl | hP
        · exact L1
        · exact hL P hP) ⟨hsup0, hlink1, hlink⟩ (u0 := u0) (sen := sen) (self := a) hmsg (cell := freshCell P0.m.cls kX) (cellS := cellS)
    hcell (fun _ => by simp) (by simp) rfl rfl hsel0 hselF hcellS hneS hknownS (by rw [hkeep _ (hout' _)]; exact hu0) (by rw [hkeep _ (hout' _)]; exact hsen)
    (Takes.of_laid hk hord tyC (by rw [Y.causeType]; rfl)) (Takes.of_laid hk hord tyS (by rw [Y.stackType]; exact fits_refV_array _ u0)) (Takes.of_laid hk hord tyP (by rw [Y.suppType]; exact fits_refV_object _ sen))
    (Takes.of_laid hk hord tyM (by rw [Y.msgType]; exact fits_refV_object _ ⟨msg, hmsg⟩)) Y.objLocals hskip htr [] hd6
    (by simp only [List.length_cons, hlen]; omega) (by simp only [List.length_cons, hlen]; exact hRlocals)
  obtain ⟨hwalk, hrun, hended, hWU, hsame⟩ := X₂.athrowLeaves hexec (g := { g with stack := .ref a :: rest, pc := g.pc + 3 }) hg hlocked hentered hout (a := a) (rest := rest) rfl hd9
  have hlt : a < ((W.setVm vm₁).setVm vm₂).heap.size := (Array.getElem?_eq_some_iff.mp hcell).1
  have hU := heapAt_setCell_self (s := (W.setVm vm₁).setVm vm₂) (plainBareV T.toThrowableT (freshCell P0.m.cls kX) a u0 sen msg) hlt
  refine ⟨_, st1 _ (fun acts => ?_), hrun, hended, hWU, hsame.weaken (fun y hy hlt' => ?_) (Nat.le_refl _) (Nat.le_refl _), _, hU, rfl, hfound⟩
  · rw [doInvoke_state]
    exact st2 _ hwalk
  · rcases List.mem_append.mp hy with h1 | h1
    · exact h1
    · exfalso
      have hb : y.base = a := by
        simp only [List.mem_cons, List.not_mem_nil, or_false] at h1
        rcases h1 with rfl | rfl | rfl | rfl | rfl <;> rfl
      rw [hb] at hlt'
      exact Nat.not_lt.mpr hnew hlt'
end PGX
abbrev pgRxN : ByteArray := prog_13_method_4_code
abbrev pgLN : List Cond := pgNA RX2 174 pgEN "java/lang/RuntimeException" 13 pgRxN ["java/lang/Exception"]
theorem pgRxN_0 : decode pgRxN 0 = .ok (.aload_n 0, 1) := by decide +kernel
theorem pgRxN_1 : decode pgRxN 1 = .ok (.aload_n 1, 1) := by decide +kernel
theorem pgRxN_2 : decode pgRxN 2 = .ok (.invokespecial 13, 3) := by decide +kernel
theorem pgRxN_5 : decode pgRxN 5 = .ok (.return_, 1) := by decide +kernel
theorem pgTN : ∀ w ∈ (pgLN.filter vx_no).filter goodWord, w ∈ pgWd := pg_ins [4, 122, 131, 136, 139, 141, 123, 124, 18, 19, 125, 130, 137, 157, 112, 158, 114, 159, 116, 126, 128, 118, 153, 154, 156, 118, 423, 424, 425, 147, 147, 148, 149, 150, 150, 151, 152, 153, 422, 413, 415, 135, 416, 417, 418, 419, 121, 120, 420] (by decide +kernel)
theorem pgTN2 : ∀ w ∈ (pgLN.filter vx_no).filter (fun w => !goodWord w), w ∈ pgNw := by decide +kernel
theorem pgTN3 : ∀ w ∈ Cond.classLink RX2 170 pgEN :: Cond.initialized pgEN :: pgLN.filter vx_no, vx_ot w = true := by decide +kernel
theorem j_throwN {p : Program} {l : Launch} {e : Env} {R : Room} {s : State} {m : MethodId} {args : Array Value} {below : List Frame} {meth : Method} {c : Code} {cc : ByteArray} {nL : Nat} {D : va_G} {tys : List (ClassId × FieldType)} {A : Nat → Prop} {Wd Wd0 : Heap → Prop} {cells slots : Nat} {pc : Nat} {L : List (Nat × Value)} {Qc : Array Value → State → Outcome → State → Prop} {px : Nat → Prop} {mc ms : Nat} (q1 : Cond.classLink RX2 170 pgEN ∈ pgWd) (q2 : Cond.initialized pgEN ∈ pgWd)
    (B : pgB p m c s args meth RX2 cc nL D tys A) (hl : l.stackTraces = false) (ht : ∀ x ∈ c.exceptionTable.toList, False) {is : Nat} {text : String} (hm : (is, text) ∈ pgStr) (d0 : decode cc pc = .ok (.new 170, 3)) (d3 : decode cc (pc + 3) = .ok (.dup, 1)) (d4 : decode cc (pc + 4) = .ok (.ldc is, 2)) (d6 : decode cc (pc + 6) = .ok (.invokespecial 174, 3)) (d9 : decode cc (pc + 9) = .ok (.athrow, 1)) (hRf : 5 < R.frames) (hRl : 82 ≤ R.locals) (hRc : cells + 1 ≤ R.cells) (hRs : slots + 6 ≤ R.slots) (hc : cells + 1 ≤ mc) (hs : slots + 6 ≤ ms) (hpx : px 4) (kept : ∀ (H H1 : Heap), Wd H → (∀ q : Nat, q < H.size → H1[q]? = H[q]?) → Wd0 H1) :
    pgJ p l e R s m args below meth c nL A Wd cells slots (vx_MQ below Qc (pgX A px Wd0) args s mc ms A) pc L [] := by
  intro H locs ls hS hW hll T hT X
  obtain ⟨hx, hb, hml, hown, hts, hlocks, hE⟩ := id B
  obtain ⟨sa, hstr⟩ := pg_str hE hm
  have hat : ∀ w ∈ pgLN.filter vx_no, w.before args s = true := vx_hat (fun w h => hts w (pgTN w h)) pgTN2 (pg_nw hE args)
  have htr : e.platform.stackTraces = false := (show e.platform.stackTraces = l.stackTraces by rw [X.admits.platform]).trans hl
  have Y := vx_rebase X (R' := { frames := R.frames, locals := R.locals, cells := 1, slots := 6 }) (Nat.le_refl _) (Nat.le_refl _) hRc hRs
  obtain ⟨s', hA⟩ : ∃ z, z = (T.setVm s.vm).setFrames (.invoking m args :: below) := ⟨_, rfl⟩
  rw [← hA] at Y
  have hvm : s'.vm = s.vm := by rw [hA]; rfl
  have hhp : s'.heap = H := by rw [hA]; exact hT
  have hW0 : s.WarmedH s'.vm := by rw [hvm]; exact State.WarmedH.refl s
  have hat' : ∀ w ∈ pgLN.filter vx_no, w.before args s' = true := fun w hw => vx_ot_at hW0 hvm.symm (pgTN3 w (List.mem_cons_of_mem _ (List.mem_cons_of_mem _ hw))) (hat w hw)
  have hk' : (Cond.classLink RX2 170 pgEN).before args s' = true := vx_ot_at hW0 hvm.symm (pgTN3 _ List.mem_cons_self) (hts _ q1)
  have hini' : (Cond.initialized pgEN).before args s' = true := vx_ot_at hW0 hvm.symm (pgTN3 _ (List.mem_cons_of_mem _ List.mem_cons_self)) (hts _ q2)
  have hU' : vx_Zq Bundle.tN "UNASSIGNED_STACK" Bundle.steD A s' s'.heap := by rw [hhp]; exact vx_Zq.moved hW0.alike (hE.2.1.1.kept hS.2.1)
  have hN' : vx_Zq Bundle.tN "SUPPRESSED_SENTINEL" Bundle.listD A s' s'.heap := by rw [hhp]; exact vx_Zq.moved hW0.alike (hE.2.1.2.kept hS.2.1)
  have h : ∀ w ∈ pgLN, w.before args s' = true := vx_own hat' (vx_isRefq hU'.1) (vx_isRefq hN'.1) hU'.2.word hN'.2.word
  have hown' : s'.vm.findClass RX2 = some m.cls := by rw [hvm]; exact hown
  have hins : (Cond.instantiable pgEN 6).before args s' = true := h _ (by simp [pgNA])
  obtain ⟨vm₁, cX, kX, hfX, hkX, -, -, X₁, st1⟩ := Y.newCold hx (own := RX2) (C := pgEN) (index := 170) (n := 6) hown' hk' hins hini' (g := F0 m pc ls []) rfl (by rw [hb]; exact d0) (Nat.le_refl _) (Nat.le_refl _)
  generalize hT1 : (T.setVm vm₁).pushCell { cls := cX, slots := kX.instanceTypes.map defaultValue, vm := .none } = T1 at X₁ st1
  have hcat : (Value.ref T.heap.size).category = 1 := rfl
  have hcellA : T1.heap[T.heap.size]? = some (freshCell cX kX) := by rw [← hT1]; exact State.heap_pushCell_size _ _
  have d3' : decode c.code (pc + 3) = .ok (.dup, 1) := by rw [hb]; exact d3
  have d4' : decode c.code (pc + 4) = .ok (.ldc is, 2) := by rw [hb]; exact d4
  have hstr' : vk_R RX2 is text sa s' := vk_R.warm hW0 hstr
  obtain ⟨U, hsteps, hrun, hend, hWU, hsame, ce, hce, hcv, hcl⟩ := pg_ctorN X₁ hx htr (own := RX2) (cls := pgEN) (Y0 := "java/lang/RuntimeException") (names := ["java/lang/Exception"]) (ic := 174) pgRxN_0 pgRxN_1 pgRxN_2 pgRxN_5 hown' rfl rfl (by decide) h (fun x hx => nomatch hx) hfX hkX hcellA (by rw [hhp, hT]; exact Nat.le_refl _) (msg := .ref sa) rfl
    (g := { method := m, pc := pc + 6, locals := ls, stack := .ref sa :: .ref T.heap.size :: .ref T.heap.size :: [], locked := none }) rfl (by rw [hml]; exact hll.1) rfl rfl (rest := []) rfl
    (by rw [hb]; exact d6) (by rw [hb]; exact d9) (fun x hx => (ht x hx).elim) hRf (by simp only [List.map_cons, List.sum_cons, List.map_nil, List.sum_nil, hcat]; exact Nat.le_trans (Nat.le_of_ble_eq_true rfl) hRl) hlocks
  obtain ⟨f1, f2⟩ := vx_frame hsame
  rw [hhp] at f1 f2
  have hWs : s.WarmedH U.vm := State.WarmedH.trans hW0 hWU
  have hcl2 : s.vm.findClass pgEN = some ce.cls := by
    rw [hvm] at hcl
    exact hcl
  have hall : s.sameButNew ({ U with vm := s.vm } : State) locs mc ms := by
    subst hA
    obtain ⟨e1, e2⟩ := hsame
    rw [State.setFrames_setFrames] at e1
    have h2 : (T.setVm s.vm).sameButNew ({ U with vm := s.vm } : State) [] (0 + 1) (0 + 6) := ⟨e1, e2⟩
    have h3 := X.same.trans h2
    rw [List.append_nil] at h3
    exact h3.mono hc hs
  refine ⟨U, ?_, .threw T.heap.size, hrun, hend, Or.inr ⟨T.heap.size, rfl, pgEN, ce, locs, ⟨4, hpx, ⟨rfl, kept H U.heap hW (fun q hq => f2 q hq (fun z hz => nomatch hz))⟩, Nat.le_trans hS.1 f1, fun q h1 h2 => (f2 q (Nat.lt_of_lt_of_le h1 hS.1) (fun z hz => nomatch hz)).trans (hS.2.1 q h1 h2)⟩, hce, hcv, hcl2, hWs, hall, hS.2.2⟩⟩
  refine st1 _ ?_
  show Steps p.tables e below (T1.setTop { method := m, pc := pc + 3, locals := ls, stack := .ref T.heap.size :: [], locked := none }) _
  jvm_step X₁.here [X₁.here.top, hx, d3', Value.category]
  exact X₁.ldcString hx (own := RX2) (text := text) (index := is) (a := sa) hown' hstr'.1 hstr'.2
    (g := { method := m, pc := pc + 4, locals := ls, stack := .ref T.heap.size :: .ref T.heap.size :: [], locked := none }) rfl d4' _ hsteps
end
section
section PGCE
variable {σ : pgSt} {k v : Int32} {n i : Nat}
theorem pgCe_0 : σ = pgCe σ k v 0 := by
  funext t j
  simp [pgCe]
theorem pgCe_at {t j : Nat} (ht : t ≠ 9) : pgCe σ k v i t j = σ t j := by simp [pgCe, ht]
theorem pgCe_9 : pgCe σ k v i 9 i = σ 9 i := by simp [pgCe]
theorem pgCeM_aw (hi : i < n) : pgAw (pgCe σ k v (min i n)) i ↔ pgAw σ i := by
  rw [Nat.min_eq_left (by omega)]
  simp only [pgAw, pgFin, pgCe_at (show (4 : Nat) ≠ 9 by decide), pgCe_at (show (8 : Nat) ≠ 9 by decide), pgCe_at (show (5 : Nat) ≠ 9 by decide), pgCe_9]
theorem pgCeM_n (h : ¬ i < n) : pgCe σ k v (min i n) = pgCe σ k v (min (i + 1) n) := by
  rw [Nat.min_eq_right (by omega), Nat.min_eq_right (by omega)]
theorem pgCeM_f (hi : i < n) (h : ¬ (σ 2 i = k ∧ pgAw σ i)) : pgCe σ k v (min i n) = pgCe σ k v (min (i + 1) n) := by
  rw [Nat.min_eq_left (by omega), Nat.min_eq_left (by omega)]
  funext t j
  simp only [pgCe]
  by_cases hj : j = i
  · subst hj
    simp [h]
  · have q : (j < i + 1) = (j < i) := by apply propext; omega
    simp only [q]
theorem pgCeM_t (hi : i < n) (h : σ 2 i = k ∧ pgAw σ i) : pgU (pgCe σ k v (min i n)) 9 i v = pgCe σ k v (min (i + 1) n) := by
  rw [Nat.min_eq_left (by omega), Nat.min_eq_left (by omega)]
  funext t j
  simp only [pgCe, pgU]
  by_cases ht : t = 9
  · subst ht
    by_cases hj : j = i
    · subst hj
      simp [h]
    · have q : (j < i + 1) = (j < i) := by apply propext; omega
      simp [q, hj]
  · simp [ht]
theorem pgN_0 {P : Nat → Bool} : ∀ {m : Nat}, pgN P m = 0 → ∀ j, j < m → ¬ P j = true
  | 0, _, j, hj => by omega
  | m + 1, h, j, hj => by
    have h2 : pgN P m + (if P m = true then 1 else 0) = 0 := h
    by_cases e : j = m
    · subst e
      intro q
      rw [if_pos q] at h2
      omega
    · exact pgN_0 (m := m) (by omega) j (by omega)
theorem pgCe_none (h : pgCeN σ k n = 0) : pgCe σ k v n = σ := by
  funext t j
  simp only [pgCe]
  by_cases q : t = 9 ∧ j < n ∧ σ 2 j = k ∧ pgAw σ j
  · have := pgN_0 h j q.2.1
    simp only [decide_eq_true_eq] at this
    exact absurd q.2.2 this
  · rw [if_neg q]
theorem nI_z {m : Nat} (hm : m ≤ 60) (h : nI m = 0) : m = 0 := (nI_eq (a := m) (b := 0) (by omega) (by omega)).mp h
end PGCE
set_option maxHeartbeats 4000000 in
set_option maxRecDepth 100000 in
/-- certify -/
theorem c_X2_certify (l : Launch) (hl : l.stackTraces = false) (D : va_G) (cD cC cI cZ cL : ClassId) (A : Nat → Prop) (σ : pgSt) (n : Nat) (ad : Nat → Nat) (hI : pgI n σ) (k0 : Int32) : vx_Met l yX2_certify (.code yX2_certify cX2_certify 7 (some .int) :: pgWd) ({ frames := 7, cells := 2, slots := 12, locals := 102 } : Room) (pgPc D (pgTys cD cC cI cZ cL) A (pgR D cD cC A σ n ad) [.ref (ad 0), .int k0]) (va_Qi (fun (r : Int32) (_ : Unit) => (sp_certify σ k0).1 = 0 ∧ r = (sp_certify σ k0).2.1) (fun _ t9 => pgR D cD cC A ((sp_certify σ k0).2.2) n ad t9.heap) A) (pgX A (fun k => (sp_certify σ k0).1 = k ∧ k ≠ 0) (pgR D cD cC A σ n ad)) 2 12 A := by
  refine pg_enterX (own := RX2) (by decide) rfl (Nat.le_of_ble_eq_true rfl) (fun p e s m below meth cc9 B hr hnm ht => ?_)
  refine j_fact (fun H h => pgR.inA h) (fun hIn => ?_)
  refine j_iload_n B dX2_certify_0 1 rfl rfl ?_
  refine j_xSv B 1 [.int k0] ht (S := Unit) (WdC' := fun _ => pgR D cD cC A σ n ad)  (c_X2_requireKeeper l hl D cD cC cI cZ cL A σ n ad k0) q_97 q_98 q_1 q_99 hdX2_requireKeeper rfl ⟨Nat.le_of_ble_eq_true rfl, Nat.le_of_ble_eq_true rfl⟩ (Nat.le_of_ble_eq_true rfl) dX2_certify_1 rfl ⟨Nat.le_of_ble_eq_true rfl, Nat.le_of_ble_eq_true rfl⟩ (Nat.le_of_ble_eq_true rfl) (Nat.le_of_ble_eq_true rfl) (fun k h => by obtain ⟨rfl, h9⟩ := h; simp only [sp_certify]; grind) (fun H h => h) (fun u1 hp2 => ?_)
  refine j_iconst B (v := 0) dX2_certify_4 (by decide) ?_
  refine j_istore_n B (L' := [(2, .int 0), (0, .ref (ad 0)), (1, .int k0)]) dX2_certify_5 rfl (by decide) rfl ?_
  refine j_aload_n B dX2_certify_6 1 rfl rfl ?_
  refine j_get B (v := .ref (ad 1)) pgX2 rfl (fun H h => pgR.x h) 0 (by decide) q_45 rfl rfl dX2_certify_7 ?_
  refine j_astore_n B (L' := [(3, .ref (ad 1)), (2, .int 0), (0, .ref (ad 0)), (1, .int k0)]) dX2_certify_10 rfl (by decide) rfl ?_
  refine j_aload_n B dX2_certify_11 0 rfl rfl ?_
  refine j_alen B (fun H h => pgR.bd h) 0 rfl (v := 60) rfl dX2_certify_12 ?_
  refine j_istore B (L' := [(4, .int 60), (3, .ref (ad 1)), (2, .int 0), (0, .ref (ad 0)), (1, .int k0)]) dX2_certify_13 (by decide) rfl ?_
  refine j_iconst B (v := 0) dX2_certify_15 (by decide) ?_
  refine j_istore B (L' := [(5, .int 0), (4, .int 60), (3, .ref (ad 1)), (2, .int 0), (0, .ref (ad 0)), (1, .int k0)]) dX2_certify_16 (by decide) rfl ?_
  refine j_locals [0, 1, 2, 3, 5, 4] rfl ?_
  refine j_world (Wd' := pgR D cD cC A (pgCe σ k0 (σ 13 4) (min 0 n)) n ad) (fun H h => pgR.eq h (by rw [Nat.zero_min]; exact pgCe_0)) ?_
  refine j_loop (N := 60) (X := Int32) (fun i x => x = nI (pgN (fun j => decide (j < n ∧ (σ 2 j = k0 ∧ pgAw σ j))) i)) (fun i x => pgR D cD cC A (pgCe σ k0 (σ 13 4) (min i n)) n ad) (fun i x => [(5, .int (nI i)), (4, .int 60), (3, .ref (ad 1)), (2, .int x), (1, .int k0), (0, .ref (ad 0))]) (fun i x hi hv ih => ?_) 0 0 (by omega) rfl
  refine j_iload B dX2_certify_18 0 rfl ?_
  refine j_iload B dX2_certify_20 1 rfl ?_
  refine j_icmp_ge B 71 dX2_certify_22 (by decide) (fun h3 => ?_) (fun h3 => ?_)
  · obtain rfl := pg_eqN hi (by omega) h3
    refine j_world (Wd' := pgR D cD cC A (pgCe σ k0 (σ 13 4) n) n ad) (fun H h => pgR.eq h (congrArg _ (Nat.min_eq_right hI.1))) ?_
    have hv0 : x = nI (pgCeN σ k0 n) := hv.trans (congrArg nI (pgN_60 (Q := fun j => σ 2 j = k0 ∧ pgAw σ j) _ hI.1))
    have hc0 : pgCeN σ k0 n ≤ 60 := Nat.le_trans (pgN_le _ _) hI.1
    refine j_iload_n B dX2_certify_71 3 rfl rfl ?_
    refine j_if_ne B 85 dX2_certify_72 (by decide) (fun h4 => ?_) (fun h4 => ?_)
    · refine j_aload_n B dX2_certify_85 5 rfl rfl ?_
      refine j_dup B dX2_certify_86 rfl ?_
      refine j_get B (v := .int ((pgCe σ k0 (σ 13 4) n) 13 4)) pgX2 rfl (fun H h => pgR.x h) 6 (by decide) q_51 rfl rfl dX2_certify_87 ?_
      refine j_iconst B (v := 1) dX2_certify_90 (by decide) ?_
      refine j_iadd B dX2_certify_91 ?_
      refine j_put B (Wd' := pgR D cD cC A (pgU (pgCe σ k0 (σ 13 4) n) 13 4 (((pgCe σ k0 (σ 13 4) n) 13 4) + 1)) n ad) pgX2 tyX2 tyX2_ok nmX2 rfl (fun H h => pgR.x h) 6 (by decide) q_51 rfl rfl rfl rfl rfl (Nat.le_of_ble_eq_true rfl) dX2_certify_92 (hIn 0 (by omega)) (fun H H1 h hc hz ho => pgR.putX h pgXs6 hc ho) ?_
      refine j_iload_n B dX2_certify_95 3 rfl rfl ?_
      have hn7 := pgI_n hI
      have hnz : ¬ pgCeN σ k0 n = 0 := fun z => by rw [z] at hv0; exact absurd hv0 (by assumption)
      have e9 : sp_certify σ k0 = (0, x, pgU (pgCe σ k0 (σ 13 4) n) 13 4 (σ 13 4 + 1)) := by
        rw [hv0]
        simp only [sp_certify, hn7]
        grind
      exact j_x (j_iret B hr rfl dX2_certify_96 (Nat.le_of_ble_eq_true rfl) (Nat.le_of_ble_eq_true rfl) () ⟨by rw [e9], by rw [e9]⟩ (fun H h => pgR.eq h (by rw [e9]; rfl)))
    · have hz0 : pgCeN σ k0 n = 0 := nI_z hc0 (by rw [← hv0]; assumption)
      exact j_throwN q_412 q_11 B hl ht (is := 172) (text := "no disk would be on the certificate") (by decide) dX2_certify_75 dX2_certify_78 dX2_certify_79 dX2_certify_81 dX2_certify_84 (Nat.le_of_ble_eq_true rfl) (Nat.le_of_ble_eq_true rfl) (Nat.le_of_ble_eq_true rfl) (Nat.le_of_ble_eq_true rfl) (Nat.le_of_ble_eq_true rfl) (Nat.le_of_ble_eq_true rfl) (by have hn7 := pgI_n hI; simp only [sp_certify, hn7]; grind) (fun H H1 h hq => pgR.more (pgR.eq h (pgCe_none hz0)) hq)
  · have hlt := pg_ltN (N := 60) (by omega) hi h3
    refine j_aload_n B dX2_certify_25 2 rfl rfl ?_
    refine j_iload B dX2_certify_26 0 rfl ?_
    refine j_aald B (fun H h => pgR.bd h) 0 rfl (vp_in_nI hlt (by omega)) dX2_certify_28 (fun h5 => ?_) (fun y6 h5 => ?_)
    · have nh5 := pgBd_nI hlt h5
      refine j_astoreN B (L' := [(6, .null), (5, .int (nI i)), (4, .int 60), (3, .ref (ad 1)), (2, .int x), (1, .int k0), (0, .ref (ad 0))]) dX2_certify_29 (by decide) rfl ?_
      refine j_aloadN B dX2_certify_31 0 rfl ?_
      refine j_ifnullN B 65 dX2_certify_33 (by decide) ?_
      refine j_iinc B (v := nI (i + 1)) (L' := [(5, .int (nI (i + 1))), (6, .null), (4, .int 60), (3, .ref (ad 1)), (2, .int x), (1, .int k0), (0, .ref (ad 0))]) dX2_certify_65 1 rfl (nI_1 i) (by decide) rfl ?_
      refine j_goto B 18 dX2_certify_68 (by decide) ?_
      refine j_locals [0, 2, 3, 4, 5, 6] rfl ?_
      exact j_world (fun H h => pgR.eq h (pgCeM_n (by assumption))) (ih hlt _ (pgN_f2 hv (fun q => absurd (of_decide_eq_true q).1 (by assumption))))
    · obtain ⟨jh5, rfl⟩ := pgBd_sI hlt h5
      refine j_astore B (L' := [(6, .ref (ad (13 + i))), (5, .int (nI i)), (4, .int 60), (3, .ref (ad 1)), (2, .int x), (1, .int k0), (0, .ref (ad 0))]) dX2_certify_29 (by decide) rfl ?_
      refine j_aload B dX2_certify_31 0 rfl ?_
      refine j_ifnull B dX2_certify_33 ?_
      refine j_aload B dX2_certify_36 0 rfl ?_
      refine j_get B (v := .int ((pgCe σ k0 (σ 13 4) (min i n)) 2 i)) pgX1 rfl (fun H h => pgR.dk h jh5) 2 (by decide) q_210 rfl rfl dX2_certify_38 ?_
      refine j_iload_n B dX2_certify_41 5 rfl rfl ?_
      refine j_icmp_ne B 65 dX2_certify_42 (by decide) (fun h7 => ?_) (fun h7 => ?_)
      · rw [pgCe_at (by decide)] at h7
        refine j_iinc B (v := nI (i + 1)) (L' := [(5, .int (nI (i + 1))), (6, .ref (ad (13 + i))), (4, .int 60), (3, .ref (ad 1)), (2, .int x), (1, .int k0), (0, .ref (ad 0))]) dX2_certify_65 1 rfl (nI_1 i) (by decide) rfl ?_
        refine j_goto B 18 dX2_certify_68 (by decide) ?_
        refine j_locals [0, 2, 3, 4, 5, 6] rfl ?_
        have z : ¬ (σ 2 i = k0 ∧ pgAw σ i) := fun q => absurd q.1 (by assumption)
        exact j_world (fun H h => pgR.eq h (pgCeM_f (by assumption) z)) (ih hlt _ (pgN_f2 hv (fun q => z (of_decide_eq_true q).2)))
      · rw [pgCe_at (by decide)] at h7
        refine j_aload B dX2_certify_45 0 rfl ?_
        refine j_cVi B (S := Unit) 0 [] (WdC' := fun _ => pgR D cD cC A (pgCe σ k0 (σ 13 4) (min i n)) n ad) (fun _ => pgR D cD cC A (pgCe σ k0 (σ 13 4) (min i n)) n ad) (c_X1_awaitsCertificate l D cD cC cI cZ cL A (pgCe σ k0 (σ 13 4) (min i n)) n ad i jh5) rfl (fun H h => pgR.dk h jh5) q_404 q_405 q_406 q_10 q_407 hdX1_awaitsCertificate rfl ⟨Nat.le_of_ble_eq_true rfl, Nat.le_of_ble_eq_true rfl⟩ (Nat.le_of_ble_eq_true rfl) dX2_certify_47 rfl ⟨Nat.le_of_ble_eq_true rfl, Nat.le_of_ble_eq_true rfl⟩ (fun _ h => h) (fun _ _ _ _ h => h) (fun _ h => h) (fun _ _ _ _ h _ _ => h) (fun r8 _ hp9 => ?_)
        by_cases h10 : pgAw (pgCe σ k0 (σ 13 4) (min i n)) i
        · obtain rfl : r8 = 1 := by rw [hp9]; exact if_pos h10
          refine j_if_eq B 65 dX2_certify_50 (by decide) (fun h11 => (absurd h11 (by decide))) (fun h11 => ?_)
          refine j_aload B dX2_certify_53 0 rfl ?_
          refine j_aload_n B dX2_certify_55 6 rfl rfl ?_
          refine j_get B (v := .int ((pgCe σ k0 (σ 13 4) (min i n)) 13 4)) pgX2 rfl (fun H h => pgR.x h) 6 (by decide) q_51 rfl rfl dX2_certify_56 ?_
          refine j_put B (Wd' := pgR D cD cC A (pgU (pgCe σ k0 (σ 13 4) (min i n)) 9 i ((pgCe σ k0 (σ 13 4) (min i n)) 13 4)) n ad) pgX1 tyX1 tyX1_ok nmX1 rfl (fun H h => pgR.dk h jh5) 10 (by decide) q_225 rfl rfl rfl rfl rfl (Nat.le_of_ble_eq_true rfl) dX2_certify_59 (hIn (13 + i) (by omega)) (fun H H1 h hc hz ho => pgR.putD h jh5 (by decide) pgDs10 hc ho) ?_
          refine j_iinc B (v := (x + 1)) (L' := [(2, .int (x + 1)), (6, .ref (ad (13 + i))), (5, .int (nI i)), (4, .int 60), (3, .ref (ad 1)), (1, .int k0), (0, .ref (ad 0))]) dX2_certify_62 4 rfl rfl (by decide) rfl ?_
          refine j_iinc B (v := nI (i + 1)) (L' := [(5, .int (nI (i + 1))), (2, .int (x + 1)), (6, .ref (ad (13 + i))), (4, .int 60), (3, .ref (ad 1)), (1, .int k0), (0, .ref (ad 0))]) dX2_certify_65 2 rfl (nI_1 i) (by decide) rfl ?_
          refine j_goto B 18 dX2_certify_68 (by decide) ?_
          refine j_locals [0, 3, 4, 1, 5, 6] rfl ?_
          have z : σ 2 i = k0 ∧ pgAw σ i := ⟨by assumption, (pgCeM_aw (k := k0) (v := σ 13 4) (by assumption)).mp (by assumption)⟩
          exact j_world (fun H h => pgR.eq h (pgCeM_t (by assumption) z)) (ih hlt _ (pgN_t2 hv (decide_eq_true ⟨by assumption, z⟩)))
        · obtain rfl : r8 = 0 := by rw [hp9]; exact if_neg h10
          refine j_if_eq B 65 dX2_certify_50 (by decide) (fun h12 => ?_) (fun h12 => (absurd (by decide) h12))
          refine j_iinc B (v := nI (i + 1)) (L' := [(5, .int (nI (i + 1))), (6, .ref (ad (13 + i))), (4, .int 60), (3, .ref (ad 1)), (2, .int x), (1, .int k0), (0, .ref (ad 0))]) dX2_certify_65 1 rfl (nI_1 i) (by decide) rfl ?_
          refine j_goto B 18 dX2_certify_68 (by decide) ?_
          refine j_locals [0, 2, 3, 4, 5, 6] rfl ?_
          have z : ¬ (σ 2 i = k0 ∧ pgAw σ i) := fun q => absurd ((pgCeM_aw (k := k0) (v := σ 13 4) (by assumption)).mpr q.2) (by assumption)
          exact j_world (fun H h => pgR.eq h (pgCeM_f (by assumption) z)) (ih hlt _ (pgN_f2 hv (fun q => z (of_decide_eq_true q).2)))
end
