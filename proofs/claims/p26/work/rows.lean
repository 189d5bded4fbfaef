section
-- ===== PART A: goes FIRST, ahead of the names: the tables' words, and 'selects' of the private methods out of them =====
/-- a private method of a class that the tables say can be made, by its rows of tables_1 -/
def lw_okq (q : MethodName × Nat) : Prop := (q.1.cls ≠ "java/lang/invoke/MethodHandle" ∧ q.1.cls ≠ "java/lang/invoke/VarHandle") ∧ Cond.instantiable q.1.cls q.2 ∈ tables_1 ∧ Cond.privateMethod q.1 ∈ tables_1 ∧ Cond.instanceMethod q.1 ∈ tables_1
theorem lw_p0 : lw_okq (⟨"java/lang/Throwable", "fillInStackTrace", "(I)Ljava/lang/Throwable;"⟩, 6) := ⟨⟨by decide +kernel, by decide +kernel⟩, List.mem_of_getElem? (i := 138) (by decide +kernel), List.mem_of_getElem? (i := 136) (by decide +kernel), List.mem_of_getElem? (i := 137) (by decide +kernel)⟩
theorem lw_p1 : lw_okq (⟨"java/util/ArrayList", "add", "(Ljava/lang/Object;[Ljava/lang/Object;I)V"⟩, 3) := ⟨⟨by decide +kernel, by decide +kernel⟩, List.mem_of_getElem? (i := 35) (by decide +kernel), List.mem_of_getElem? (i := 266) (by decide +kernel), List.mem_of_getElem? (i := 267) (by decide +kernel)⟩
theorem lw_p2 : lw_okq (⟨"java/util/ArrayList", "grow", "()[Ljava/lang/Object;"⟩, 3) := ⟨⟨by decide +kernel, by decide +kernel⟩, List.mem_of_getElem? (i := 35) (by decide +kernel), List.mem_of_getElem? (i := 270) (by decide +kernel), List.mem_of_getElem? (i := 271) (by decide +kernel)⟩
theorem lw_p3 : lw_okq (⟨"java/util/ArrayList", "grow", "(I)[Ljava/lang/Object;"⟩, 3) := ⟨⟨by decide +kernel, by decide +kernel⟩, List.mem_of_getElem? (i := 35) (by decide +kernel), List.mem_of_getElem? (i := 274) (by decide +kernel), List.mem_of_getElem? (i := 275) (by decide +kernel)⟩
theorem lw_p4 : lw_okq (⟨"BeamOffice", "beamlineNumbered", "(I)LBeamOffice$Beamline;"⟩, 5) := ⟨⟨by decide +kernel, by decide +kernel⟩, List.mem_of_getElem? (i := 27) (by decide +kernel), List.mem_of_getElem? (i := 351) (by decide +kernel), List.mem_of_getElem? (i := 352) (by decide +kernel)⟩
theorem lw_p5 : lw_okq (⟨"BeamOffice", "allotAtScore", "(LBeamOffice$Beamline;I)V"⟩, 5) := ⟨⟨by decide +kernel, by decide +kernel⟩, List.mem_of_getElem? (i := 27) (by decide +kernel), List.mem_of_getElem? (i := 465) (by decide +kernel), List.mem_of_getElem? (i := 466) (by decide +kernel)⟩
theorem lw_p6 : lw_okq (⟨"BeamOffice", "proposalNumbered", "(I)LBeamOffice$Proposal;"⟩, 5) := ⟨⟨by decide +kernel, by decide +kernel⟩, List.mem_of_getElem? (i := 27) (by decide +kernel), List.mem_of_getElem? (i := 501) (by decide +kernel), List.mem_of_getElem? (i := 502) (by decide +kernel)⟩
theorem lw_p7 : lw_okq (⟨"BeamOffice", "countCold", "()I"⟩, 5) := ⟨⟨by decide +kernel, by decide +kernel⟩, List.mem_of_getElem? (i := 27) (by decide +kernel), List.mem_of_getElem? (i := 542) (by decide +kernel), List.mem_of_getElem? (i := 543) (by decide +kernel)⟩
theorem lw_p8 : lw_okq (⟨"BeamOffice", "reasonAt", "(LBeamOffice$Beamline;)C"⟩, 5) := ⟨⟨by decide +kernel, by decide +kernel⟩, List.mem_of_getElem? (i := 27) (by decide +kernel), List.mem_of_getElem? (i := 603) (by decide +kernel), List.mem_of_getElem? (i := 604) (by decide +kernel)⟩
theorem lw_p9 : lw_okq (⟨"BeamOffice", "passOne", "()I"⟩, 5) := ⟨⟨by decide +kernel, by decide +kernel⟩, List.mem_of_getElem? (i := 27) (by decide +kernel), List.mem_of_getElem? (i := 711) (by decide +kernel), List.mem_of_getElem? (i := 712) (by decide +kernel)⟩
def lw_privs_1 : List (MethodName × Nat) := [(⟨"java/lang/Throwable", "fillInStackTrace", "(I)Ljava/lang/Throwable;"⟩, 6), (⟨"java/util/ArrayList", "add", "(Ljava/lang/Object;[Ljava/lang/Object;I)V"⟩, 3), (⟨"java/util/ArrayList", "grow", "()[Ljava/lang/Object;"⟩, 3), (⟨"java/util/ArrayList", "grow", "(I)[Ljava/lang/Object;"⟩, 3), (⟨"BeamOffice", "beamlineNumbered", "(I)LBeamOffice$Beamline;"⟩, 5), (⟨"BeamOffice", "allotAtScore", "(LBeamOffice$Beamline;I)V"⟩, 5), (⟨"BeamOffice", "proposalNumbered", "(I)LBeamOffice$Proposal;"⟩, 5), (⟨"BeamOffice", "countCold", "()I"⟩, 5), (⟨"BeamOffice", "reasonAt", "(LBeamOffice$Beamline;)C"⟩, 5), (⟨"BeamOffice", "passOne", "()I"⟩, 5)]
theorem lw_r1 : ∀ q ∈ lw_privs_1, lw_okq q := List.forall_mem_cons.mpr ⟨lw_p0, List.forall_mem_cons.mpr ⟨lw_p1, List.forall_mem_cons.mpr ⟨lw_p2, List.forall_mem_cons.mpr ⟨lw_p3, List.forall_mem_cons.mpr ⟨lw_p4, List.forall_mem_cons.mpr ⟨lw_p5, List.forall_mem_cons.mpr ⟨lw_p6, List.forall_mem_cons.mpr ⟨lw_p7, List.forall_mem_cons.mpr ⟨lw_p8, List.forall_mem_cons.mpr ⟨lw_p9, fun _ h => absurd h List.not_mem_nil⟩⟩⟩⟩⟩⟩⟩⟩⟩⟩
def lw_privs : List (MethodName × Nat) := lw_privs_1
def lw_tbl : List Cond := k2_sels lw_privs ++ tables_1
theorem lw_privs_ok : ∀ q ∈ lw_privs, lw_okq q := lw_r1
-- ===== end of PART A; then your names; then what follows =====
/-! ===== BEGIN words of one list among another's, by their places ===== -/
theorem goodIn_r {big : List Cond} (ws : List Cond) (ps : List Nat) (hp : ws = ps.filterMap (fun i => big[i]?)) (h : ws.all goodWord = true) : GoodIn big ws := by
  intro w hw
  have h1 := List.all_eq_true.mp h w hw
  rw [hp] at hw
  obtain ⟨i, -, hi⟩ := List.mem_filterMap.mp hw
  have hm : w ∈ big := by first | exact List.mem_of_getElem? hi | exact List.getElem?_mem hi
  exact ⟨hm, good_of_word h1⟩
theorem goodIn_app {big a b : List Cond} (ha : GoodIn big a) (hb : GoodIn big b) : GoodIn big (a ++ b) := fun w h => (List.mem_append.mp h).elim (ha w) (hb w)
theorem goodIn_ca {big a b : List Cond} {c : Cond} (ha : GoodIn big (c :: a)) (hb : GoodIn big b) : GoodIn big (c :: (a ++ b)) := fun w h => (List.mem_cons.mp h).elim (fun e => ha w (List.mem_cons.mpr (Or.inl e))) (fun h => (List.mem_append.mp h).elim (fun h => ha w (List.mem_cons.mpr (Or.inr h))) (hb w))
theorem goodIn_sub {big ws : List Cond} (hm : ∀ w ∈ ws, w ∈ big) (h : ws.all goodWord = true) : GoodIn big ws := fun w hw => ⟨hm w hw, good_of_word (List.all_eq_true.mp h w hw)⟩
/-! ===== END ===== -/

/-! ===== BEGIN exceptions that leave a method, and their catching by the caller (launches without stack traces) ===== -/
section VXA
/-! The laws vx_back, vx_callV, vx_callS, vx_callSW, vx_throw0, vx_throwS follow proofs of the library, with one case more: JvmDerived/Free/Laws.lean (Back.of_free), Shelf42/LK1.lean (callV, callS), Shelf/KitTraced.lean (throwNew0V, throwNewS). -/
/-- where a method has thrown q: the class by its name, the cell, what was written, the world -/
def vx_T (XC : String → State → State → Prop) (st : State) (q : Addr) (t : State) (mc ms : Nat) (free : Addr → Prop) : Prop :=
  ∃ (E : String) (ce : Cell) (L : List Loc), XC E st t ∧ t.heap[q]? = some ce ∧ ce.vm = .none ∧ st.vm.findClass E = some ce.cls ∧ st.WarmedH t.vm ∧ st.sameButNew ({ t with vm := st.vm } : State) L mc ms ∧ ∀ z ∈ L, free z.base
def vx_Q (Qc : Array Value → State → Outcome → State → Prop) (XC : String → State → State → Prop) (mc ms : Nat) (free : Addr → Prop) : Array Value → State → Outcome → State → Prop := fun a st o t =>
  (Qc a st o t ∧ ∃ L, FrameEnd st o t L mc ms ∧ ∀ q ∈ L, free q.base) ∨ ∃ q, o = .threw q ∧ vx_T XC st q t mc ms free
/-- a callee that returns or throws -/
def vx_Met (l : Launch) (y : MethodName) (ws : List Cond) (rm : Room) (Pc : Array Value → State → Prop) (Qc : Array Value → State → Outcome → State → Prop) (XC : String → State → State → Prop) (mc ms : Nat) (free : Addr → Prop) : Prop :=
  MetFree l y (headSpec ws rm) Pc (fun _ _ _ _ _ => True) (vx_Q Qc XC mc ms free)
def vx_Post (XC : String → State → State → Prop) (mc ms : Nat) (free : Addr → Prop) : Pt → Array Value → Addr → Pt → Prop := fun A a q B =>
  ∃ (g : JFrame) (mk : MethodId) (t : State) (L : List Loc) (E : String) (ce : Cell), B.U.heap = t.heap ∧ B.U.vm = t.vm ∧ XC E (A.U.calling g mk a) t ∧ t.heap[q]? = some ce ∧ ce.vm = .none ∧ A.U.vm.findClass E = some ce.cls ∧ B.locs = A.locs ++ L ∧ (∀ z ∈ L, free z.base) ∧ B.cells = A.cells + mc ∧ B.slots = A.slots + ms
def vx_Back (l : Launch) (R : Room) (p : Program) (e : Env) (below : List Frame) (s : State) (sargs : Array Value) (y : MethodName) (len W9 : Nat)
    (Pre : Pt → Array Value → Prop) (Post : Pt → Array Value → Option Value → Pt → Prop) (PostX : Pt → Array Value → Addr → Pt → Prop) : Prop :=
  ∀ (m : MethodId) (meth : Method) (c : Code) (A : Pt) (g : JFrame) (ig : Instr) (mk : MethodId) (a : Array Value),
    Stand p l e R s m sargs below meth c A.U A.locs A.cells A.slots → g.method = m → g.locals.size = c.maxLocals → decode c.code g.pc = .ok (ig, len) →
    2 * g.monitorRoom + (g.stack.map fun v => v.category).sum ≤ W9 → A.U.methodNamed? y = some mk → Pre A a →
    (∃ (v : Option Value) (B : Pt), Stand p l e R s m sargs below meth c B.U B.locs B.cells B.slots ∧ Post A a v B ∧
      Steps p.tables e below (doInvoke e (A.U.setTop g) [] mk a).1 (B.U.setTop { g with pc := g.pc + len, stack := v.toList ++ g.stack })) ∨
    (∃ (q : Addr) (B : Pt), Stand p l e R s m sargs below meth c B.U B.locs B.cells B.slots ∧ PostX A a q B ∧
      Steps p.tables e below (doInvoke e (A.U.setTop g) [] mk a).1 ((B.U.setTop g).pushFrame (.throwing q)))
section Payer
variable {l : Launch} {R : Room} {p : Program} {e : Env} {below : List Frame} {s : State} {sargs : Array Value} {y : MethodName} {len W9 : Nat}
theorem vx_back {ws : List Cond} {rm : Room} {Pc : Array Value → State → Prop} {Qc : Array Value → State → Outcome → State → Prop} {XC : String → State → State → Prop} {mc ms : Nat} {free : Addr → Prop} {bytes : ByteArray} {maxL : Nat} {ret : Option FieldType}
    (hM : vx_Met l y ws rm Pc Qc XC mc ms free) (hblind : FrameBlind Pc) (hrc : rm.cells = mc) (hrs : rm.slots = ms)
    (hframes : rm.frames + 1 ≤ R.frames) (hlocals : W9 + (maxL + 11) + rm.locals ≤ R.locals)
    (hws : ∀ w ∈ ws, ∀ a' U, s.WarmedH U.vm → w.before a' U = true) (hcode : Cond.code y bytes maxL ret ∈ ws) (hinit : ∀ a' U, s.WarmedH U.vm → (Cond.initialized y.cls).before a' U = true) :
    vx_Back l R p e below s sargs y len W9 (PreOf R mc ms Pc) (PostOf Qc mc ms free) (vx_Post XC mc ms free) := by
  intro m meth c A g ig mk a X hg hsize hdg hW hn hp
  have h1 : (headSpec ws rm).pre.before a A.U = true := atoms_intro fun w hw => hws w hw _ _ X.warmed
  have h2 : (Cond.code y bytes maxL ret).before a A.U = true := hws _ hcode _ _ X.warmed
  have h3 : (Cond.initialized y.cls).before a A.U = true := hinit _ _ X.warmed
  have h4 : A.cells + (headSpec ws rm).room.cells ≤ R.cells := by rw [show (headSpec ws rm).room.cells = mc from hrc]; exact hp.1
  have h5 : A.slots + (headSpec ws rm).room.slots ≤ R.slots := by rw [show (headSpec ws rm).room.slots = ms from hrs]; exact hp.2.1
  have hPc : Pc a (A.U.calling g mk a) := hblind _ _ _ _ hp.2.2
  obtain ⟨U, Ls, c0, s0⟩ := A
  dsimp only [Pt.U, Pt.locs, Pt.cells, Pt.slots] at h1 h2 h3 h4 h5 X hn hPc ⊢
  obtain ⟨methY, cY, hmY, hcY, -, hlY, -, -, -, -⟩ := Cond.code_spec hn h2
  obtain ⟨kY, hkY, -⟩ := className_of_methodNamed hn
  have hinitY : kY.init = .initialized := Cond.initialized_spec (findClass_of_methodNamed hn) hkY h3
  have h : At U g.method c below := by rw [hg]; exact X.here
  have hlocals9 : W9 + (maxL + 11) + (headSpec ws rm).room.locals ≤ R.locals := hlocals
  have happ : (headSpec ws rm).appliesLoose y e.platform (U.calling g mk a) = true :=
    Spec.appliesLoose_calling (g := g) h hdg hn hkY hinitY
      (X.room_calling (g := g) (R' := (headSpec ws rm).room) hsize hmY hcY hframes (by rw [hlY]; omega) h4 h5) h1
  obtain ⟨mid, hmid⟩ := h.above
  have hfr : (U.setTop g).frames = (.java g :: mid) ++ below := by rw [State.frames_setTop' g h.top, hmid]; rfl
  obtain ⟨o, s₂, hsteps, -, hend, hq⟩ := Steps.callFree hM p X.admits X.cas X.clock (acts := []) hfr happ hPc trivial
  have hq' : vx_Q Qc XC mc ms free a (U.calling g mk a) o s₂ := hq
  rw [State.frames_setTop' g h.top] at hend
  obtain ⟨g₀, hg0⟩ := Option.isSome_iff_exists.mp h.top
  obtain ⟨r, hr⟩ := State.topJava?_eq_some.mp hg0
  have hr' : (({ U with heap := s₂.heap, slotsUsed := s₂.slotsUsed } : State).setVm s₂.vm).frames = .java g₀ :: r := hr
  rcases hq' with ⟨hqc, L, hfe, hL⟩ | ⟨q, rfl, E, ce, L, hx, hce, hcv, hcl, hW₂, hsm, hL⟩
  · obtain ⟨⟨v, rfl⟩, hW₂, e2, q2, q3, q4, q5, q6⟩ := id hfe
    have e3 : s₂ = ({ (U.calling g mk a).setFrames s₂.frames with heap := s₂.heap, slotsUsed := s₂.slotsUsed } : State).setVm s₂.vm := by
      have : s₂ = ({ s₂ with vm := (U.calling g mk a).vm } : State).setVm s₂.vm := rfl
      rw [e2] at this
      exact this
    obtain ⟨c₂, i₂, len₂, hc₂, hd₂, hf₂⟩ := hend
    have hW' : U.WarmedH s₂.vm := hW₂
    have hcc : c₂ = c := by
      have h1 : s₂.code? g.method = U.code? g.method := by
        rw [State.code?_eq, State.code?_eq, hW'.alike.method?]
      exact Option.some.inj (hc₂.symm.trans (h1.trans h.code))
    subst hcc
    have hlen : len₂ = len := by rw [hdg] at hd₂; cases hd₂; rfl
    subst hlen
    have hs₂ : s₂ = (({ U with heap := s₂.heap, slotsUsed := s₂.slotsUsed } : State).setVm s₂.vm).setTop { g with pc := g.pc + len₂, stack := v.toList ++ g.stack } := by
      refine e3.trans ?_
      rw [hf₂, State.calling_eq h.top, State.setFrames_setFrames, State.setTop_of_frames _ hr', hr]
      rfl
    have hsame : U.sameButNew ({ U with heap := s₂.heap, slotsUsed := s₂.slotsUsed } : State) L mc ms := by
      refine ⟨?_, q2, q3, q4, q5, q6⟩
      obtain ⟨t, ht, -⟩ := State.frames_cons hr
      show ({ U with heap := s₂.heap, slotsUsed := s₂.slotsUsed } : State) = { U.setFrames U.frames with heap := s₂.heap, slotsUsed := s₂.slotsUsed }
      rw [State.setFrames_self ht]
    subst hg
    refine Or.inl ⟨v, ⟨(({ U with heap := s₂.heap, slotsUsed := s₂.slotsUsed } : State).setVm s₂.vm), Ls ++ L, c0 + mc, s0 + ms⟩,
      ⟨X.admits, X.cas, X.clock, X.frames, X.room, X.hears, X.method, X.code, (X.here.setHeapUsed s₂.heap s₂.slotsUsed).setVm hW'.alike, X.tail, State.WarmedH.trans X.warmed hW', X.limits, X.bytes, X.same.trans (hsame.setVm s.vm)⟩,
      ⟨g, mk, s₂, L, rfl, rfl, hqc, rfl, hL, rfl, rfl⟩, ?_⟩
    show Steps p.tables e below _ ((({ U with heap := s₂.heap, slotsUsed := s₂.slotsUsed } : State).setVm s₂.vm).setTop { g with pc := g.pc + len₂, stack := v.toList ++ g.stack })
    rw [← hs₂]
    exact hsteps
  · obtain ⟨e2, q2, q3, q4, q5, q6⟩ := id hsm
    have e3 : s₂ = ({ (U.calling g mk a).setFrames s₂.frames with heap := s₂.heap, slotsUsed := s₂.slotsUsed } : State).setVm s₂.vm := by
      have : s₂ = ({ s₂ with vm := (U.calling g mk a).vm } : State).setVm s₂.vm := rfl
      rw [e2] at this
      exact this
    have hf₂ : s₂.frames = .throwing q :: .java g :: U.frames.tail := hend
    have hW' : U.WarmedH s₂.vm := hW₂
    have hs₂ : s₂ = ((({ U with heap := s₂.heap, slotsUsed := s₂.slotsUsed } : State).setVm s₂.vm).setTop g).pushFrame (.throwing q) := by
      refine e3.trans ?_
      rw [hf₂, State.calling_eq h.top, State.setFrames_setFrames, State.pushFrame, State.frames_setTop _ hr', State.setTop_of_frames _ hr', State.setFrames_setFrames, hr]
      rfl
    have hsame : U.sameButNew ({ U with heap := s₂.heap, slotsUsed := s₂.slotsUsed } : State) L mc ms := by
      refine ⟨?_, q2, q3, q4, q5, q6⟩
      obtain ⟨t, ht, -⟩ := State.frames_cons hr
      show ({ U with heap := s₂.heap, slotsUsed := s₂.slotsUsed } : State) = { U.setFrames U.frames with heap := s₂.heap, slotsUsed := s₂.slotsUsed }
      rw [State.setFrames_self ht]
    subst hg
    refine Or.inr ⟨q, ⟨(({ U with heap := s₂.heap, slotsUsed := s₂.slotsUsed } : State).setVm s₂.vm), Ls ++ L, c0 + mc, s0 + ms⟩,
      ⟨X.admits, X.cas, X.clock, X.frames, X.room, X.hears, X.method, X.code, (X.here.setHeapUsed s₂.heap s₂.slotsUsed).setVm hW'.alike, X.tail, State.WarmedH.trans X.warmed hW', X.limits, X.bytes, X.same.trans (hsame.setVm s.vm)⟩,
      ⟨g, mk, s₂, L, E, ce, rfl, rfl, hx, hce, hcv, hcl, rfl, hL, rfl, rfl⟩, ?_⟩
    show Steps p.tables e below _ (((({ U with heap := s₂.heap, slotsUsed := s₂.slotsUsed } : State).setVm s₂.vm).setTop g).pushFrame (.throwing q))
    rw [← hs₂]
    exact hsteps
end Payer
section Calls
variable {p : Program} {l : Launch} {e : Env} {R : Room} {s : State} {m : MethodId} {args : Array Value} {below : List Frame} {meth : Method} {c : Code} {T : State} {locs : List Loc} {cells slots : Nat}
theorem vx_callV (X : Stand p l e R s m args below meth c T locs cells slots) (hexec : p.tables.exec = Jvm.exec) {own C : String} {index : Nat} {y : MethodName} {bytes : ByteArray} {maxL : Nat} {ret : Option FieldType}
    (hown : s.vm.findClass own = some m.cls) (hlink : (Cond.methodLink own index y).before args s = true) (hinst : (Cond.instanceMethod y).before args s = true) (hsel : (Cond.selects C y y).before args s = true)
    (hcode : (Cond.code y bytes maxL ret).before args s = true) (hy : y.cls ≠ "java/lang/invoke/MethodHandle" ∧ y.cls ≠ "java/lang/invoke/VarHandle")
    {W9 : Nat} {Pre : Pt → Array Value → Prop} {Post : Pt → Array Value → Option Value → Pt → Prop} {PostX : Pt → Array Value → Addr → Pt → Prop} (hK : vx_Back l R p e below s args y 3 W9 Pre Post PostX)
    {b : Addr} {cellB : Cell} (hcell : T.heap[b]? = some cellB) (hobj : cellB.vm.isStatics = false) (hcls : s.vm.findClass C = some cellB.cls)
    {g : JFrame} (hg : g.method = m) (hsize : g.locals.size = c.maxLocals) {argsL rest : List Value} (hlen : ∀ sig, parseMethodDescriptor y.desc = some sig → argsL.length = sig.parameters.length)
    (hstack : g.stack = argsL.reverse ++ .ref b :: rest) (hW : 2 * g.monitorRoom + (rest.map fun v => v.category).sum ≤ W9) (hdg : decode c.code g.pc = .ok (.invokevirtual index, 3))
    (hpre : ∀ vm₁, s.WarmedH vm₁ → Pre ⟨T.setVm vm₁, locs, cells, slots⟩ (Value.ref b :: argsL).toArray) :
    (∃ (v : Option Value) (vm₁ : Vm) (B : Pt), s.WarmedH vm₁ ∧ Stand p l e R s m args below meth c B.U B.locs B.cells B.slots ∧ Post ⟨T.setVm vm₁, locs, cells, slots⟩ (Value.ref b :: argsL).toArray v B ∧
      ∀ target, Steps p.tables e below (B.U.setTop { g with pc := g.pc + 3, stack := v.toList ++ rest }) target → Steps p.tables e below (T.setTop g) target) ∨
    (∃ (q : Addr) (vm₁ : Vm) (B : Pt), s.WarmedH vm₁ ∧ Stand p l e R s m args below meth c B.U B.locs B.cells B.slots ∧ PostX ⟨T.setVm vm₁, locs, cells, slots⟩ (Value.ref b :: argsL).toArray q B ∧
      Steps p.tables e below (T.setTop g) ((B.U.setTop { g with stack := rest }).pushFrame (.throwing q))) := by
  obtain ⟨mk, methM, hnamed, hmethM, hstM, habM⟩ := Cond.instanceMethod_spec hinst
  obtain ⟨methM', cM, hmethM', -, -, -, -, -, -, hsigM⟩ := Cond.code_spec hnamed hcode
  cases hmethM.symm.trans hmethM'
  obtain ⟨c2, r2, m2, q1, q2, q3, q4, kP, hkP, hkPi⟩ := Cond.selects_spec hsel
  cases hcls.symm.trans q1
  cases (State.methodFound?_of_named hnamed hy).symm.trans q2
  cases hnamed.symm.trans q3
  have hselP : selectMethod e.platform s.vm cellB.cls mk = .method mk := by rw [Launch.admits_selectMethod X.admits]; exact q4
  obtain ⟨vm₁, X₁, hstep₁⟩ := X.invokevirtual hexec hown hlink hnamed hmethM hstM hkP hkPi hy (a := b) (cell := cellB) hcell
    (fun z h => by rw [h] at hobj; cases hobj) hselP hmethM habM hkP hkPi (g := g) hg (argsL := argsL) (rest := rest) (hlen _ hsigM) hstack hdg
  rcases hK m meth c ⟨T.setVm vm₁, locs, cells, slots⟩ { g with stack := rest } (.invokevirtual index) mk (Value.ref b :: argsL).toArray X₁ hg hsize hdg hW (X₁.named hnamed) (hpre vm₁ X₁.warmed) with ⟨v, B, X', hpost, hsteps⟩ | ⟨q, B, X', hpost, hsteps⟩
  · exact Or.inl ⟨v, vm₁, B, X₁.warmed, X', hpost, fun target h => hstep₁ _ fun acts => by rw [doInvoke_state]; exact hsteps.trans h⟩
  · exact Or.inr ⟨q, vm₁, B, X₁.warmed, X', hpost, hstep₁ _ fun acts => by rw [doInvoke_state]; exact hsteps⟩
theorem vx_callS (X : Stand p l e R s m args below meth c T locs cells slots) (hexec : p.tables.exec = Jvm.exec) {own : String} {index : Nat} {y : MethodName} {bytes : ByteArray} {maxL : Nat} {ret : Option FieldType}
    (hown : s.vm.findClass own = some m.cls) (hlink : (Cond.methodLink own index y).before args s = true) (hstat : (Cond.static y).before args s = true) (hinit : (Cond.initialized y.cls).before args s = true)
    (hcode : (Cond.code y bytes maxL ret).before args s = true) (hy : y.cls ≠ "java/lang/invoke/MethodHandle" ∧ y.cls ≠ "java/lang/invoke/VarHandle")
    {W9 : Nat} {Pre : Pt → Array Value → Prop} {Post : Pt → Array Value → Option Value → Pt → Prop} {PostX : Pt → Array Value → Addr → Pt → Prop} (hK : vx_Back l R p e below s args y 3 W9 Pre Post PostX)
    {g : JFrame} (hg : g.method = m) (hsize : g.locals.size = c.maxLocals) {argsL rest : List Value} (hlen : ∀ sig, parseMethodDescriptor y.desc = some sig → argsL.length = sig.parameters.length)
    (hstack : g.stack = argsL.reverse ++ rest) (hW : 2 * g.monitorRoom + (rest.map fun v => v.category).sum ≤ W9) (hdg : decode c.code g.pc = .ok (.invokestatic index, 3))
    (hpre : ∀ vm₁, s.WarmedH vm₁ → Pre ⟨T.setVm vm₁, locs, cells, slots⟩ argsL.toArray) :
    (∃ (v : Option Value) (vm₁ : Vm) (B : Pt), s.WarmedH vm₁ ∧ Stand p l e R s m args below meth c B.U B.locs B.cells B.slots ∧ Post ⟨T.setVm vm₁, locs, cells, slots⟩ argsL.toArray v B ∧
      ∀ target, Steps p.tables e below (B.U.setTop { g with pc := g.pc + 3, stack := v.toList ++ rest }) target → Steps p.tables e below (T.setTop g) target) ∨
    (∃ (q : Addr) (vm₁ : Vm) (B : Pt), s.WarmedH vm₁ ∧ Stand p l e R s m args below meth c B.U B.locs B.cells B.slots ∧ PostX ⟨T.setVm vm₁, locs, cells, slots⟩ argsL.toArray q B ∧
      Steps p.tables e below (T.setTop g) ((B.U.setTop { g with stack := rest }).pushFrame (.throwing q))) := by
  obtain ⟨mk, hnamed⟩ := Cond.code_named hcode
  obtain ⟨methM, cM, hmethM, -, -, -, -, -, -, hsigM⟩ := Cond.code_spec hnamed hcode
  have hstatic : methM.isStatic = true := Cond.static_spec hnamed hmethM hstat
  obtain ⟨kP, hkP, -⟩ := className_of_methodNamed hnamed
  have hinitP : kP.init = .initialized := Cond.initialized_spec (findClass_of_methodNamed hnamed) hkP hinit
  obtain ⟨vm₁, X₁, hstep₁⟩ := X.invokestatic hexec hown hlink hnamed hmethM hstatic hkP hinitP hy (g := g) hg (argsL := argsL) (rest := rest) (hlen _ hsigM) hstack hdg
  rcases hK m meth c ⟨T.setVm vm₁, locs, cells, slots⟩ { g with stack := rest } (.invokestatic index) mk argsL.toArray X₁ hg hsize hdg hW (X₁.named hnamed) (hpre vm₁ X₁.warmed) with ⟨v, B, X', hpost, hsteps⟩ | ⟨q, B, X', hpost, hsteps⟩
  · exact Or.inl ⟨v, vm₁, B, X₁.warmed, X', hpost, fun target h => hstep₁ _ fun acts => by rw [doInvoke_state]; exact hsteps.trans h⟩
  · exact Or.inr ⟨q, vm₁, B, X₁.warmed, X', hpost, hstep₁ _ fun acts => by rw [doInvoke_state]; exact hsteps⟩
end Calls
theorem vx_cls {s : State} {T : State} {vm₁ : Vm} {E : String} {k : ClassId} (hW : s.WarmedH vm₁) (h : (T.setVm vm₁).vm.findClass E = some k) : s.vm.findClass E = some k := by
  have h1 : vm₁.findClass E = some k := h
  rw [hW.alike.findClass] at h1
  exact h1
/-- the method's frame g, with q thrown over it -/
def vx_W (p : Program) (l : Launch) (e : Env) (R : Room) (s : State) (m : MethodId) (args : Array Value) (below : List Frame) (meth : Method) (c : Code) (H : Heap) (locs : List Loc) (cells slots : Nat) (Q : State → Prop) (g : JFrame) (q : Addr) : Prop :=
  ∀ T : State, T.heap = H → Stand p l e R s m args below meth c T locs cells slots → ∃ t, Steps p.tables e below ((T.setTop g).pushFrame (.throwing q)) t ∧ Q t
def vx_Run (p : Program) (l : Launch) (e : Env) (R : Room) (s : State) (m : MethodId) (args : Array Value) (below : List Frame) (meth : Method) (c : Code) (H : Heap) (locs : List Loc) (cells slots mc ms : Nat) (g : JFrame) (rest : List Value) (Qa : State → Outcome → State → Prop) (XC : String → State → State → Prop) (free : Addr → Prop) : Prop :=
  ∀ T : State, T.heap = H → Stand p l e R s m args below meth c T locs cells slots →
    (∃ (v : Option Value) (st₀ t T' : State) (L : List Loc), st₀.heap = H ∧ Stand p l e R s m args below meth c T' (locs ++ L) (cells + mc) (slots + ms) ∧ (∀ q ∈ L, free q.base) ∧ T'.heap = t.heap ∧ T'.vm = t.vm ∧ Qa st₀ (.returned v) t ∧
      Goes p e below T g T' { g with pc := g.pc + 3, stack := v.toList ++ rest }) ∨
    (∃ (q : Addr) (st₀ t T' : State) (L : List Loc) (E : String) (ce : Cell), st₀.heap = H ∧ Stand p l e R s m args below meth c T' (locs ++ L) (cells + mc) (slots + ms) ∧ (∀ z ∈ L, free z.base) ∧ T'.heap = t.heap ∧ T'.vm = t.vm ∧ XC E st₀ t ∧ t.heap[q]? = some ce ∧ ce.vm = .none ∧ s.vm.findClass E = some ce.cls ∧
      Steps p.tables e below (T.setTop g) ((T'.setTop { g with stack := rest }).pushFrame (.throwing q)))
def vx_X {S : Type} (px : S → Prop) (B : String → S → State → Prop) (A : Nat → Prop) : String → State → State → Prop := fun E st t => ∃ u : S, px u ∧ B E u t ∧ va_F A st t
section Runs
variable {p : Program} {l : Launch} {e : Env} {R : Room} {s : State} {m : MethodId} {args : Array Value} {below : List Frame} {meth : Method} {c : Code} {H : Heap} {locs : List Loc} {cells slots : Nat}
variable {y : MethodName} {bytes cc : ByteArray} {maxL nL mc ms n index : Nat} {ret : Option FieldType} {ws : List Cond} {rm : Room} {Pc : Array Value → State → Prop} {Qc : Array Value → State → Outcome → State → Prop} {XC : String → State → State → Prop} {free : Addr → Prop} {Ts : List Cond} {own C : String} {b : Addr} {As rest : List Value} {g : JFrame}
theorem vx_callBack (cb : CallB R s args own index y bytes maxL ret ws rm mc ms n) (hM : vx_Met l y ws rm Pc Qc XC mc ms free) (hbl : FrameBlind Pc) : vx_Back l R p e below s args y 3 8 (PreOf R mc ms Pc) (PostOf Qc mc ms free) (vx_Post XC mc ms free) := by
  obtain ⟨hrc, hrs, hfr, hlo, hws, hcw, -, hini, -⟩ := cb
  exact vx_back (bytes := bytes) (maxL := maxL) (ret := ret) hM hbl hrc hrs hfr hlo hws hcw (fun a' U hW => word_at hW (Or.inl (by first | rfl | simp [Cond.onTables, Cond.keeps, Cond.steady])) hini)
theorem vx_runV (S : CallFix p m c cc nL s args Ts own) (hM : vx_Met l y ws rm Pc Qc XC mc ms free) (cw : CallW R s args own C index y bytes maxL ret ws rm mc ms n) (hp : PreV s H C b Pc As)
    (hg : g.method = m) (hn : As.length = n) (hsize : g.locals.size = nL) (hstack : g.stack = As.reverse ++ .ref b :: rest) (hW : 2 * g.monitorRoom + (rest.map fun v => v.category).sum ≤ 8) (hdg : decode cc g.pc = .ok (.invokevirtual index, 3)) (hf : cells + mc ≤ R.cells ∧ slots + ms ≤ R.slots) :
    vx_Run p l e R s m args below meth c H locs cells slots mc ms g rest (Qc (Value.ref b :: As).toArray) XC free := by
  have hK : vx_Back l R p e below s args y 3 8 (PreOf R mc ms Pc) (PostOf Qc mc ms free) (vx_Post XC mc ms free) := vx_callBack cw.1 hM hp.1
  obtain ⟨⟨-, -, -, -, -, -, hcode, -, hy, hlen, hl⟩, hin, hse⟩ := cw
  obtain ⟨hx, hb, hml, ho, -⟩ := S
  obtain ⟨-, ⟨cellB, hcB, hoB, hclB⟩, hPc⟩ := hp
  intro T hT X
  rcases vx_callV X hx (C := C) (bytes := bytes) (maxL := maxL) (ret := ret) ho hl hin hse hcode hy hK (by rw [hT]; exact hcB) hoB hclB hg (hsize.trans hml.symm) (argsL := As) (rest := rest) (fun sig h => hn.trans (hlen sig h)) hstack hW (by rw [hb]; exact hdg)
    (fun vm₁ hW₁ => ⟨hf.1, hf.2, hPc (T.setVm vm₁) hT hW₁⟩) with ⟨v, vm₁, ⟨U', l2, c2, s2⟩, hW₁, X', ⟨g', mk, t, L, e1, e2, hq, h1, hL, h2, h3⟩, st⟩ | ⟨q, vm₁, ⟨U', l2, c2, s2⟩, hW₁, X', ⟨g', mk, t, L, E, ce, e1, e2, hq, hce, hcv, hcl, h1, hL, h2, h3⟩, st⟩
  · dsimp only [Pt.U, Pt.locs, Pt.cells, Pt.slots] at X' e1 e2 h1 h2 h3 st
    subst h1; subst h2; subst h3
    exact Or.inl ⟨v, (T.setVm vm₁).calling g' mk (Value.ref b :: As).toArray, t, U', L, hT, X', hL, e1, e2, hq, st⟩
  · dsimp only [Pt.U, Pt.locs, Pt.cells, Pt.slots] at X' e1 e2 h1 h2 h3 st hcl
    subst h1; subst h2; subst h3
    exact Or.inr ⟨q, (T.setVm vm₁).calling g' mk (Value.ref b :: As).toArray, t, U', L, E, ce, hT, X', hL, e1, e2, hq, hce, hcv, vx_cls hW₁ hcl, st⟩
theorem vx_runS (S : CallFix p m c cc nL s args Ts own) (hM : vx_Met l y ws rm Pc Qc XC mc ms free) (cw : CallB R s args own index y bytes maxL ret ws rm mc ms n ∧ (Cond.static y).before args s = true) (hp : PreS s H Pc As)
    (hg : g.method = m) (hn : As.length = n) (hsize : g.locals.size = nL) (hstack : g.stack = As.reverse ++ rest) (hW : 2 * g.monitorRoom + (rest.map fun v => v.category).sum ≤ 8) (hdg : decode cc g.pc = .ok (.invokestatic index, 3)) (hf : cells + mc ≤ R.cells ∧ slots + ms ≤ R.slots) :
    vx_Run p l e R s m args below meth c H locs cells slots mc ms g rest (Qc As.toArray) XC free := by
  have hK : vx_Back l R p e below s args y 3 8 (PreOf R mc ms Pc) (PostOf Qc mc ms free) (vx_Post XC mc ms free) := vx_callBack cw.1 hM hp.1
  obtain ⟨⟨-, -, -, -, -, -, hcode, hini, hy, hlen, hl⟩, hstt⟩ := cw
  obtain ⟨hx, hb, hml, ho, -⟩ := S
  intro T hT X
  rcases vx_callS X hx (bytes := bytes) (maxL := maxL) (ret := ret) ho hl hstt hini hcode hy hK hg (hsize.trans hml.symm) (argsL := As) (rest := rest) (fun sig h => hn.trans (hlen sig h)) hstack hW (by rw [hb]; exact hdg)
    (fun vm₁ hW₁ => ⟨hf.1, hf.2, hp.2 (T.setVm vm₁) hT hW₁⟩) with ⟨v, vm₁, ⟨U', l2, c2, s2⟩, hW₁, X', ⟨g', mk, t, L, e1, e2, hq, h1, hL, h2, h3⟩, st⟩ | ⟨q, vm₁, ⟨U', l2, c2, s2⟩, hW₁, X', ⟨g', mk, t, L, E, ce, e1, e2, hq, hce, hcv, hcl, h1, hL, h2, h3⟩, st⟩
  · dsimp only [Pt.U, Pt.locs, Pt.cells, Pt.slots] at X' e1 e2 h1 h2 h3 st
    subst h1; subst h2; subst h3
    exact Or.inl ⟨v, (T.setVm vm₁).calling g' mk As.toArray, t, U', L, hT, X', hL, e1, e2, hq, st⟩
  · dsimp only [Pt.U, Pt.locs, Pt.cells, Pt.slots] at X' e1 e2 h1 h2 h3 st hcl
    subst h1; subst h2; subst h3
    exact Or.inr ⟨q, (T.setVm vm₁).calling g' mk As.toArray, t, U', L, E, ce, hT, X', hL, e1, e2, hq, hce, hcv, vx_cls hW₁ hcl, st⟩
end Runs
section Rows
variable {p : Program} {l : Launch} {e : Env} {R : Room} {s : State} {m : MethodId} {args : Array Value} {below : List Frame} {meth : Method} {c : Code} {H : Heap} {locs : List Loc} {cells slots : Nat} {Q : State → Prop}
variable {mc ms : Nat} {free : Addr → Prop} {A0 A1 : Nat → Prop} {H0 : Heap} {a : Array Value} {pc : Nat} {ls : Array Slot} {st0 rest : List Value}
theorem vx_keep {st₀ t T' : State} {L : List Loc} (h0 : st₀.heap = H) (e1 : T'.heap = t.heap) (hS : va_S A0 H0 H locs) (hA : ∀ q, q < H.size → A1 q → A0 q) (hf : ∀ q, free q → A0 q) (hL : ∀ q ∈ L, free q.base) (hF : va_F A1 st₀ t) :
    H.size ≤ T'.heap.size ∧ (∀ q : Nat, q < H.size → ¬ A1 q → T'.heap[q]? = H[q]?) ∧ va_S A0 H0 T'.heap (locs ++ L) := by
  obtain ⟨hz, hk⟩ := hF
  rw [h0] at hz hk
  exact ⟨by rw [e1]; exact hz, fun q h1 h2 => by rw [e1]; exact hk q h1 h2,
    ⟨Nat.le_trans hS.1 (by rw [e1]; exact hz), fun q h1 h2 => by rw [e1, hk q (Nat.lt_of_lt_of_le h1 hS.1) (fun z => h2 (hA q (Nat.lt_of_lt_of_le h1 hS.1) z))]; exact hS.2.1 q h1 h2, fun q hq => by
      rcases List.mem_append.mp hq with h | h
      · exact hS.2.2 q h
      · exact hf _ (hL q h)⟩⟩
theorem vx_calli {S SX : Type} {post : Int32 → S → Prop} {px : SX → Prop} {B : S → State → Prop} {BX : String → SX → State → Prop} {AX : Nat → Prop} (hr : vx_Run p l e R s m args below meth c H locs cells slots mc ms (F0 m pc ls st0) rest (va_Qi post B A1 a) (vx_X px BX AX) free) (hS : va_S A0 H0 H locs) (hA : ∀ q, q < H.size → A1 q → A0 q) (hf : ∀ q, free q → A0 q) (hAX : ∀ q, q < H.size → AX q → A0 q)
    (kx : ∀ (E : String) (ce : Cell) (q9 : Addr) (u : SX) (t : State) (H1 : Heap) (locs1 : List Loc), t.heap = H1 → s.vm.Alike t.vm → px u → BX E u t → H.size ≤ H1.size → (∀ q : Nat, q < H.size → ¬ AX q → H1[q]? = H[q]?) → va_S A0 H0 H1 locs1 → H1[q9]? = some ce → ce.vm = .none → s.vm.findClass E = some ce.cls → vx_W p l e R s m args below meth c H1 locs1 (cells + mc) (slots + ms) Q (F0 m pc ls rest) q9)
    (kk : ∀ (r : Int32) (u : S) (t : State) (H1 : Heap) (locs1 : List Loc), t.heap = H1 → s.vm.Alike t.vm → post r u → B u t → H.size ≤ H1.size → (∀ q : Nat, q < H.size → ¬ A1 q → H1[q]? = H[q]?) → va_S A0 H0 H1 locs1 → W p l e R s m args below meth c H1 locs1 (cells + mc) (slots + ms) Q (F0 m (pc + 3) ls (.int r :: rest))) : W p l e R s m args below meth c H locs cells slots Q (F0 m pc ls st0) := by
  intro T hT X
  rcases hr T hT X with ⟨v, st₀, t, T', L, h0, X', hL, e1, e2, ⟨⟨r, u, hv, hp, hb⟩, hF⟩, st⟩ | ⟨q, st₀, t, T', L, E, ce, h0, X', hL, e1, e2, ⟨u, hp, hb, hF⟩, hce, hcv, hcl, st⟩
  · cases hv
    obtain ⟨k1, k2, k3⟩ := vx_keep h0 e1 hS hA hf hL hF
    obtain ⟨t2, a1, b1⟩ := kk r u t T'.heap (locs ++ L) e1.symm (by rw [← e2]; exact X'.warmed.alike) hp hb k1 k2 k3 T' rfl X'
    exact ⟨t2, st t2 a1, b1⟩
  · obtain ⟨k1, k2, k3⟩ := vx_keep h0 e1 hS hAX hf hL hF
    obtain ⟨t2, a1, b1⟩ := kx E ce q u t T'.heap (locs ++ L) e1.symm (by rw [← e2]; exact X'.warmed.alike) hp hb k1 k2 k3 (by rw [e1]; exact hce) hcv hcl T' rfl X'
    exact ⟨t2, st.trans a1, b1⟩
theorem vx_calll {S SX : Type} {post : Int64 → S → Prop} {px : SX → Prop} {B : S → State → Prop} {BX : String → SX → State → Prop} {AX : Nat → Prop} (hr : vx_Run p l e R s m args below meth c H locs cells slots mc ms (F0 m pc ls st0) rest (va_Ql post B A1 a) (vx_X px BX AX) free) (hS : va_S A0 H0 H locs) (hA : ∀ q, q < H.size → A1 q → A0 q) (hf : ∀ q, free q → A0 q) (hAX : ∀ q, q < H.size → AX q → A0 q)
    (kx : ∀ (E : String) (ce : Cell) (q9 : Addr) (u : SX) (t : State) (H1 : Heap) (locs1 : List Loc), t.heap = H1 → s.vm.Alike t.vm → px u → BX E u t → H.size ≤ H1.size → (∀ q : Nat, q < H.size → ¬ AX q → H1[q]? = H[q]?) → va_S A0 H0 H1 locs1 → H1[q9]? = some ce → ce.vm = .none → s.vm.findClass E = some ce.cls → vx_W p l e R s m args below meth c H1 locs1 (cells + mc) (slots + ms) Q (F0 m pc ls rest) q9)
    (kk : ∀ (r : Int64) (u : S) (t : State) (H1 : Heap) (locs1 : List Loc), t.heap = H1 → s.vm.Alike t.vm → post r u → B u t → H.size ≤ H1.size → (∀ q : Nat, q < H.size → ¬ A1 q → H1[q]? = H[q]?) → va_S A0 H0 H1 locs1 → W p l e R s m args below meth c H1 locs1 (cells + mc) (slots + ms) Q (F0 m (pc + 3) ls (.long r :: rest))) : W p l e R s m args below meth c H locs cells slots Q (F0 m pc ls st0) := by
  intro T hT X
  rcases hr T hT X with ⟨v, st₀, t, T', L, h0, X', hL, e1, e2, ⟨⟨r, u, hv, hp, hb⟩, hF⟩, st⟩ | ⟨q, st₀, t, T', L, E, ce, h0, X', hL, e1, e2, ⟨u, hp, hb, hF⟩, hce, hcv, hcl, st⟩
  · cases hv
    obtain ⟨k1, k2, k3⟩ := vx_keep h0 e1 hS hA hf hL hF
    obtain ⟨t2, a1, b1⟩ := kk r u t T'.heap (locs ++ L) e1.symm (by rw [← e2]; exact X'.warmed.alike) hp hb k1 k2 k3 T' rfl X'
    exact ⟨t2, st t2 a1, b1⟩
  · obtain ⟨k1, k2, k3⟩ := vx_keep h0 e1 hS hAX hf hL hF
    obtain ⟨t2, a1, b1⟩ := kx E ce q u t T'.heap (locs ++ L) e1.symm (by rw [← e2]; exact X'.warmed.alike) hp hb k1 k2 k3 (by rw [e1]; exact hce) hcv hcl T' rfl X'
    exact ⟨t2, st.trans a1, b1⟩
theorem vx_callf {S SX : Type} {post : UInt32 → S → Prop} {px : SX → Prop} {B : S → State → Prop} {BX : String → SX → State → Prop} {AX : Nat → Prop} (hr : vx_Run p l e R s m args below meth c H locs cells slots mc ms (F0 m pc ls st0) rest (va_Qf post B A1 a) (vx_X px BX AX) free) (hS : va_S A0 H0 H locs) (hA : ∀ q, q < H.size → A1 q → A0 q) (hf : ∀ q, free q → A0 q) (hAX : ∀ q, q < H.size → AX q → A0 q)
    (kx : ∀ (E : String) (ce : Cell) (q9 : Addr) (u : SX) (t : State) (H1 : Heap) (locs1 : List Loc), t.heap = H1 → s.vm.Alike t.vm → px u → BX E u t → H.size ≤ H1.size → (∀ q : Nat, q < H.size → ¬ AX q → H1[q]? = H[q]?) → va_S A0 H0 H1 locs1 → H1[q9]? = some ce → ce.vm = .none → s.vm.findClass E = some ce.cls → vx_W p l e R s m args below meth c H1 locs1 (cells + mc) (slots + ms) Q (F0 m pc ls rest) q9)
    (kk : ∀ (r : UInt32) (u : S) (t : State) (H1 : Heap) (locs1 : List Loc), t.heap = H1 → s.vm.Alike t.vm → post r u → B u t → H.size ≤ H1.size → (∀ q : Nat, q < H.size → ¬ A1 q → H1[q]? = H[q]?) → va_S A0 H0 H1 locs1 → W p l e R s m args below meth c H1 locs1 (cells + mc) (slots + ms) Q (F0 m (pc + 3) ls (.float r :: rest))) : W p l e R s m args below meth c H locs cells slots Q (F0 m pc ls st0) := by
  intro T hT X
  rcases hr T hT X with ⟨v, st₀, t, T', L, h0, X', hL, e1, e2, ⟨⟨r, u, hv, hp, hb⟩, hF⟩, st⟩ | ⟨q, st₀, t, T', L, E, ce, h0, X', hL, e1, e2, ⟨u, hp, hb, hF⟩, hce, hcv, hcl, st⟩
  · cases hv
    obtain ⟨k1, k2, k3⟩ := vx_keep h0 e1 hS hA hf hL hF
    obtain ⟨t2, a1, b1⟩ := kk r u t T'.heap (locs ++ L) e1.symm (by rw [← e2]; exact X'.warmed.alike) hp hb k1 k2 k3 T' rfl X'
    exact ⟨t2, st t2 a1, b1⟩
  · obtain ⟨k1, k2, k3⟩ := vx_keep h0 e1 hS hAX hf hL hF
    obtain ⟨t2, a1, b1⟩ := kx E ce q u t T'.heap (locs ++ L) e1.symm (by rw [← e2]; exact X'.warmed.alike) hp hb k1 k2 k3 (by rw [e1]; exact hce) hcv hcl T' rfl X'
    exact ⟨t2, st.trans a1, b1⟩
theorem vx_calld {S SX : Type} {post : UInt64 → S → Prop} {px : SX → Prop} {B : S → State → Prop} {BX : String → SX → State → Prop} {AX : Nat → Prop} (hr : vx_Run p l e R s m args below meth c H locs cells slots mc ms (F0 m pc ls st0) rest (va_Qd post B A1 a) (vx_X px BX AX) free) (hS : va_S A0 H0 H locs) (hA : ∀ q, q < H.size → A1 q → A0 q) (hf : ∀ q, free q → A0 q) (hAX : ∀ q, q < H.size → AX q → A0 q)
    (kx : ∀ (E : String) (ce : Cell) (q9 : Addr) (u : SX) (t : State) (H1 : Heap) (locs1 : List Loc), t.heap = H1 → s.vm.Alike t.vm → px u → BX E u t → H.size ≤ H1.size → (∀ q : Nat, q < H.size → ¬ AX q → H1[q]? = H[q]?) → va_S A0 H0 H1 locs1 → H1[q9]? = some ce → ce.vm = .none → s.vm.findClass E = some ce.cls → vx_W p l e R s m args below meth c H1 locs1 (cells + mc) (slots + ms) Q (F0 m pc ls rest) q9)
    (kk : ∀ (r : UInt64) (u : S) (t : State) (H1 : Heap) (locs1 : List Loc), t.heap = H1 → s.vm.Alike t.vm → post r u → B u t → H.size ≤ H1.size → (∀ q : Nat, q < H.size → ¬ A1 q → H1[q]? = H[q]?) → va_S A0 H0 H1 locs1 → W p l e R s m args below meth c H1 locs1 (cells + mc) (slots + ms) Q (F0 m (pc + 3) ls (.double r :: rest))) : W p l e R s m args below meth c H locs cells slots Q (F0 m pc ls st0) := by
  intro T hT X
  rcases hr T hT X with ⟨v, st₀, t, T', L, h0, X', hL, e1, e2, ⟨⟨r, u, hv, hp, hb⟩, hF⟩, st⟩ | ⟨q, st₀, t, T', L, E, ce, h0, X', hL, e1, e2, ⟨u, hp, hb, hF⟩, hce, hcv, hcl, st⟩
  · cases hv
    obtain ⟨k1, k2, k3⟩ := vx_keep h0 e1 hS hA hf hL hF
    obtain ⟨t2, a1, b1⟩ := kk r u t T'.heap (locs ++ L) e1.symm (by rw [← e2]; exact X'.warmed.alike) hp hb k1 k2 k3 T' rfl X'
    exact ⟨t2, st t2 a1, b1⟩
  · obtain ⟨k1, k2, k3⟩ := vx_keep h0 e1 hS hAX hf hL hF
    obtain ⟨t2, a1, b1⟩ := kx E ce q u t T'.heap (locs ++ L) e1.symm (by rw [← e2]; exact X'.warmed.alike) hp hb k1 k2 k3 (by rw [e1]; exact hce) hcv hcl T' rfl X'
    exact ⟨t2, st.trans a1, b1⟩
theorem vx_callv {S SX : Type} {post : S → Prop} {px : SX → Prop} {B : S → State → Prop} {BX : String → SX → State → Prop} {AX : Nat → Prop} (hr : vx_Run p l e R s m args below meth c H locs cells slots mc ms (F0 m pc ls st0) rest (va_Qv post B A1 a) (vx_X px BX AX) free) (hS : va_S A0 H0 H locs) (hA : ∀ q, q < H.size → A1 q → A0 q) (hf : ∀ q, free q → A0 q) (hAX : ∀ q, q < H.size → AX q → A0 q)
    (kx : ∀ (E : String) (ce : Cell) (q9 : Addr) (u : SX) (t : State) (H1 : Heap) (locs1 : List Loc), t.heap = H1 → s.vm.Alike t.vm → px u → BX E u t → H.size ≤ H1.size → (∀ q : Nat, q < H.size → ¬ AX q → H1[q]? = H[q]?) → va_S A0 H0 H1 locs1 → H1[q9]? = some ce → ce.vm = .none → s.vm.findClass E = some ce.cls → vx_W p l e R s m args below meth c H1 locs1 (cells + mc) (slots + ms) Q (F0 m pc ls rest) q9)
    (kk : ∀ (u : S) (t : State) (H1 : Heap) (locs1 : List Loc), t.heap = H1 → s.vm.Alike t.vm → post u → B u t → H.size ≤ H1.size → (∀ q : Nat, q < H.size → ¬ A1 q → H1[q]? = H[q]?) → va_S A0 H0 H1 locs1 → W p l e R s m args below meth c H1 locs1 (cells + mc) (slots + ms) Q (F0 m (pc + 3) ls (rest))) : W p l e R s m args below meth c H locs cells slots Q (F0 m pc ls st0) := by
  intro T hT X
  rcases hr T hT X with ⟨v, st₀, t, T', L, h0, X', hL, e1, e2, ⟨⟨u, hv, hp, hb⟩, hF⟩, st⟩ | ⟨q, st₀, t, T', L, E, ce, h0, X', hL, e1, e2, ⟨u, hp, hb, hF⟩, hce, hcv, hcl, st⟩
  · cases hv
    obtain ⟨k1, k2, k3⟩ := vx_keep h0 e1 hS hA hf hL hF
    obtain ⟨t2, a1, b1⟩ := kk u t T'.heap (locs ++ L) e1.symm (by rw [← e2]; exact X'.warmed.alike) hp hb k1 k2 k3 T' rfl X'
    exact ⟨t2, st t2 a1, b1⟩
  · obtain ⟨k1, k2, k3⟩ := vx_keep h0 e1 hS hAX hf hL hF
    obtain ⟨t2, a1, b1⟩ := kx E ce q u t T'.heap (locs ++ L) e1.symm (by rw [← e2]; exact X'.warmed.alike) hp hb k1 k2 k3 (by rw [e1]; exact hce) hcv hcl T' rfl X'
    exact ⟨t2, st.trans a1, b1⟩
/-- caught by the row x of this method's table; the rows ahead don't take it -/
theorem vx_catch {own name : String} {E : String} {ce : Cell} {q : Addr} (hown : s.vm.findClass own = some m.cls) (pre : List ExceptionTableEntry) (x : ExceptionTableEntry) (suf : List ExceptionTableEntry) (hsplit : c.exceptionTable.toList = pre ++ x :: suf)
    (hpass : ∀ z ∈ pre, covers z pc = false ∨ (z.catchType ≠ 0 ∧ ∃ nm : String, (Cond.classLink own z.catchType nm).before args s = true ∧ va_Nc E nm s)) (hx : covers x pc = true) (h0 : x.catchType ≠ 0)
    (hlink : (Cond.classLink own x.catchType name).before args s = true) (hcast : (Cond.castable E name).before args s = true) (hcell : H[q]? = some ce) (hv : ce.vm = .none) (hcl : s.vm.findClass E = some ce.cls)
    (kk : W p l e R s m args below meth c H locs cells slots Q (F0 m x.handlerPc ls [.ref q])) : vx_W p l e R s m args below meth c H locs cells slots Q (F0 m pc ls rest) q := by
  intro T hT X
  have hpl : e.platform.magicAccessors = ({} : Platform).magicAccessors := by rw [X.admits.platform]
  obtain ⟨c3, c4, hc3, hc4, hasg⟩ := Cond.castable_spec hcast
  cases Option.some.inj (hc3.symm.trans hcl)
  obtain ⟨c5, hc5, hcl5⟩ := Cond.classLink_spec hown hlink e.platform hpl
  cases Option.some.inj (hc4.symm.trans hc5)
  obtain ⟨vm', X', st⟩ := X.thenCaughtThrough q (g := F0 m pc ls rest) rfl (Steps.refl _) (by rw [hT]; exact hcell) (by rw [hv]; rfl) (by obtain ⟨k9, h9, -⟩ := Vm.findClass_spec hcl; exact ⟨k9, h9⟩) pre x suf hsplit
    (fun z hz => by
      rcases hpass z hz with h | ⟨hz0, nm, hl1, hn1⟩
      · exact Or.inl h
      · obtain ⟨c6, hc6, hcl6⟩ := Cond.classLink_spec hown hl1 e.platform hpl
        obtain ⟨a8, b8, h1, h2, h3⟩ := hn1
        cases Option.some.inj (h1.symm.trans hcl)
        cases Option.some.inj (h2.symm.trans hc6)
        exact Or.inr ⟨hz0, _, hcl6, h3⟩) hx (Or.inr ⟨h0, c4, hcl5, hasg⟩)
  obtain ⟨t, a1, b1⟩ := kk (T.setVm vm') hT X'
  exact ⟨t, st.trans a1, b1⟩
end Rows
section Ends
variable {p : Program} {l : Launch} {e : Env} {R : Room} {s : State} {m : MethodId} {args : Array Value} {below : List Frame} {meth : Method} {c : Code} {H : Heap} {locs : List Loc} {cells slots : Nat} {Q : State → Prop}
variable {mc ms : Nat} {free : Addr → Prop} {A0 A1 : Nat → Prop} {H0 : Heap} {a : Array Value} {ls : Array Slot} {st0 rest : List Value}
variable {Qc : Array Value → State → Outcome → State → Prop} {XC : String → State → State → Prop}
/-- what a body that may throw owes at its end -/
def vx_MQ (below : List Frame) (Qc : Array Value → State → Outcome → State → Prop) (XC : String → State → State → Prop) (a : Array Value) (s : State) (mc ms : Nat) (free : Addr → Prop) : State → Prop := fun t =>
  ∃ o, t.status = .running ∧ Ended t below o ∧ vx_Q Qc XC mc ms free a s o t
theorem vx_ret {g : JFrame} {mc ms : Nat} (k : W p l e R s m args below meth c H locs cells slots (MQ below Qc args s mc ms free) g) : W p l e R s m args below meth c H locs cells slots (vx_MQ below Qc XC args s mc ms free) g := by
  intro T hT X
  obtain ⟨t, a1, o, b1, b2, b3, b4⟩ := k T hT X
  exact ⟨t, a1, o, b1, b2, Or.inl ⟨b3, b4⟩⟩
/-- not caught here: it goes on to the caller -/
theorem vx_widen {g : JFrame} {q : Addr} {k n : Nat} (h1 : cells ≤ k) (h2 : slots ≤ n) (kk : vx_W p l e R s m args below meth c H locs k n Q g q) : vx_W p l e R s m args below meth c H locs cells slots Q g q := fun T hT X => kk T hT (stand_widen X h1 h2)
theorem vx_out {pc : Nat} {E : String} {ce : Cell} {q : Addr} {mc ms : Nat} (hout : ∀ x ∈ c.exceptionTable.toList, covers x pc = false) (hlocks : meth.locks = false) (hcell : H[q]? = some ce) (hv : ce.vm = .none) (hcl : s.vm.findClass E = some ce.cls)
    (hx : ∀ t : State, t.heap = H → s.vm.Alike t.vm → XC E s t) (hf : ∀ z ∈ locs, free z.base) (hc : cells ≤ mc) (hs : slots ≤ ms) :
    vx_W p l e R s m args below meth c H locs cells slots (vx_MQ below Qc XC args s mc ms free) (F0 m pc ls rest) q := by
  intro T hT X
  obtain ⟨st1, hrun, hend, hW, hsm⟩ := X.leaveThrown q (g := F0 m pc ls rest) rfl rfl rfl hout hlocks
  have hcell9 : (T.setFrames (.throwing q :: below)).heap[q]? = some ce := by
    show T.heap[q]? = some ce
    rw [hT]; exact hcell
  exact ⟨_, st1, .threw q, hrun, hend, Or.inr ⟨q, rfl, E, ce, locs, hx _ hT hW.alike, hcell9, hv, hcl, hW, hsm.mono hc hs, hf⟩⟩
theorem vx_frame {U : State} {k n : Nat} (h : s.sameButNew ({ U with vm := s.vm } : State) locs k n) : s.heap.size ≤ U.heap.size ∧ ∀ q : Nat, q < s.heap.size → (∀ z ∈ locs, z.base ≠ q) → U.heap[q]? = s.heap[q]? := by
  obtain ⟨-, h2, -, -, -, h6⟩ := h
  refine ⟨h2, fun q hq hz => ?_⟩
  obtain ⟨c9, e1, e2, e3, e4⟩ := h6 q _ (Array.getElem?_eq_getElem hq)
  have hs : c9.slots = (s.heap[q]).slots := Array.ext_getElem? fun i => e4 i fun hm => hz _ hm rfl
  have h9 : c9 = s.heap[q] := by
    rw [hs] at e2
    exact e2
  have e5 : U.heap[q]? = some c9 := e1
  rw [e5, h9, Array.getElem?_eq_getElem hq]
/-- the words of a throw but the four that speak of the heap -/
def vx_no (w : Cond) : Bool := decide (w ≠ .isRef (.static Bundle.tN "UNASSIGNED_STACK" Bundle.steD)) && decide (w ≠ .isRef (.static Bundle.tN "SUPPRESSED_SENTINEL" Bundle.listD)) && decide (w ≠ .laysStatic Bundle.tN "UNASSIGNED_STACK" Bundle.steD) && decide (w ≠ .laysStatic Bundle.tN "SUPPRESSED_SENTINEL" Bundle.listD)
def vx_at0 (own : String) (ic : Nat) (X : String) (names : List String) : List Cond := (Bundle.ownAtoms0 own ic X names).filter vx_no
def vx_atS (own : String) (ic : Nat) (X : String) (names : List String) : List Cond := (Bundle.ownAtoms own ic X names).filter vx_no
/-- a word that the tables alone decide, or a good one -/
def vx_ot (w : Cond) : Bool := w.onTables || goodWord w
theorem vx_ot_at {args a' : Array Value} {s U : State} {w : Cond} (hW : s.WarmedH U.vm) (hvm : s.vm = U.vm) (hg : vx_ot w = true) (h : w.before args s = true) : w.before a' U = true := by
  simp only [vx_ot, Bool.or_eq_true] at hg
  rcases hg with hg | hg
  · exact va_tabs hg hvm h
  · exact word_at hW (good_of_word hg) h
/-- a list's words: the good ones out of the method's own list, the others by premises of their own -/
theorem vx_hat {args : Array Value} {s : State} {L B : List Cond} (h1 : ∀ w ∈ L.filter goodWord, w.before args s = true) (h2 : ∀ w ∈ L.filter (fun w => !goodWord w), w ∈ B) (h3 : ∀ w ∈ B, w.before args s = true) : ∀ w ∈ L, w.before args s = true := by
  intro w hw
  by_cases g : goodWord w = true
  · exact h1 w (List.mem_filter.mpr ⟨hw, g⟩)
  · refine h3 w (h2 w (List.mem_filter.mpr ⟨hw, ?_⟩))
    show (!goodWord w) = true
    cases hgw : goodWord w
    · rfl
    · exact absurd hgw g
theorem vx_c {args : Array Value} {s : State} {w : Cond} {B : List Cond} (h : w.before args s = true) (t : ∀ w ∈ B, w.before args s = true) : ∀ w' ∈ w :: B, w'.before args s = true := fun w' h' => (List.mem_cons.mp h').elim (fun e => by rw [e]; exact h) (t w')
theorem vx_n {args : Array Value} {s : State} : ∀ w ∈ ([] : List Cond), w.before args s = true := fun _ h => nomatch h
theorem vx_own {args : Array Value} {s : State} {L : List Cond} (h1 : ∀ w ∈ L.filter vx_no, w.before args s = true)
    (hU : (Cond.isRef (.static Bundle.tN "UNASSIGNED_STACK" Bundle.steD)).before args s = true) (hN : (Cond.isRef (.static Bundle.tN "SUPPRESSED_SENTINEL" Bundle.listD)).before args s = true)
    (lU : (Cond.laysStatic Bundle.tN "UNASSIGNED_STACK" Bundle.steD).before args s = true) (lN : (Cond.laysStatic Bundle.tN "SUPPRESSED_SENTINEL" Bundle.listD).before args s = true) : ∀ w ∈ L, w.before args s = true := by
  intro w hw
  by_cases e1 : w = .isRef (.static Bundle.tN "UNASSIGNED_STACK" Bundle.steD)
  · rw [e1]; exact hU
  · by_cases e2 : w = .isRef (.static Bundle.tN "SUPPRESSED_SENTINEL" Bundle.listD)
    · rw [e2]; exact hN
    · by_cases e3 : w = .laysStatic Bundle.tN "UNASSIGNED_STACK" Bundle.steD
      · rw [e3]; exact lU
      · by_cases e4 : w = .laysStatic Bundle.tN "SUPPRESSED_SENTINEL" Bundle.listD
        · rw [e4]; exact lN
        · exact h1 w (List.mem_filter.mpr ⟨hw, by unfold vx_no; rw [decide_eq_true e1, decide_eq_true e2, decide_eq_true e3, decide_eq_true e4]; rfl⟩)
/-- where a static field lies, its class's statics cell in H -/
def vx_L (C n d : String) (A : Nat → Prop) (U : State) (H : Heap) : Prop := ∃ (c : ClassId) (k : Class) (i : Nat) (f : Field) (a : Nat) (cell : Cell), U.vm.findClass C = some c ∧ U.fieldFound? C n d = some (c, k, i, f) ∧ f.isStatic = true ∧ k.statics = some a ∧ H[a]? = some cell ∧ cell.vm.isStatics = true ∧ cell.cls = c ∧ f.slot < cell.slots.size ∧ k.staticTypes[f.slot]? = some f.type ∧ ¬ A a
theorem vx_L.moved {C n d : String} {A : Nat → Prop} {u U : State} {H : Heap} (hvm : u.vm.Alike U.vm) (h : vx_L C n d A u H) : vx_L C n d A U H := by
  obtain ⟨c, k, i, f, a, cell, h1, h2, h3, h4, h5, h6, h7, h8, h9, h10⟩ := h
  obtain ⟨k', hi', he⟩ := State.fieldFound?_setVm hvm h2
  exact ⟨c, k', i, f, a, cell, by rw [hvm.findClass]; exact h1, hi', h3, by rw [he]; exact h4, h5, h6, h7, h8, by rw [he]; exact h9, h10⟩
theorem vx_L.kept {C n d : String} {A : Nat → Prop} {U : State} {H H1 : Heap} (h : vx_L C n d A U H) (hq : ∀ a : Nat, a < H.size → ¬ A a → H1[a]? = H[a]?) : vx_L C n d A U H1 := by
  obtain ⟨c, k, i, f, a, cell, h1, h2, h3, h4, h5, h6, h7, h8, h9, h10⟩ := h
  exact ⟨c, k, i, f, a, cell, h1, h2, h3, h4, by rw [hq a (Array.getElem?_eq_some_iff.mp h5).1 h10]; exact h5, h6, h7, h8, h9, h10⟩
theorem vx_L.narrow {C n d : String} {A B : Nat → Prop} {U : State} {H : Heap} (h : vx_L C n d A U H) (hAB : ∀ q, B q → A q) : vx_L C n d B U H := by
  obtain ⟨c, k, i, f, a, cell, h1, h2, h3, h4, h5, h6, h7, h8, h9, h10⟩ := h
  exact ⟨c, k, i, f, a, cell, h1, h2, h3, h4, h5, h6, h7, h8, h9, fun z => h10 (hAB _ z)⟩
theorem vx_L.word {C n d : String} {A : Nat → Prop} {s : State} {args : Array Value} (h : vx_L C n d A s s.heap) : (Cond.laysStatic C n d).before args s = true := by
  obtain ⟨c, k, i, f, a, cell, h1, h2, h3, h4, h5, h6, h7, h8, h9, -⟩ := h
  show (Cond.laysStatic C n d).holds args s none s [] = true
  exact Cond.laysStatic_of h1 h2 h3 h4 h5 h6 h7 h8 h9
/-- .. and what it holds: null or some reference -/
def vx_Zq (C n d : String) (A : Nat → Prop) (U : State) (H : Heap) : Prop := va_Zq C n d A U H ∧ vx_L C n d A U H
theorem vx_Zq.moved {C n d : String} {A : Nat → Prop} {u U : State} {H : Heap} (hvm : u.vm.Alike U.vm) (h : vx_Zq C n d A u H) : vx_Zq C n d A U H := ⟨va_Zq.moved hvm h.1, vx_L.moved hvm h.2⟩
theorem vx_Zq.kept {C n d : String} {A : Nat → Prop} {U : State} {H H1 : Heap} (h : vx_Zq C n d A U H) (hq : ∀ a : Nat, a < H.size → ¬ A a → H1[a]? = H[a]?) : vx_Zq C n d A U H1 := ⟨va_Zq.kept h.1 hq, vx_L.kept h.2 hq⟩
theorem vx_Zq.narrow {C n d : String} {A B : Nat → Prop} {U : State} {H : Heap} (h : vx_Zq C n d A U H) (hAB : ∀ q, B q → A q) : vx_Zq C n d B U H := ⟨va_Zq.narrow h.1 hAB, vx_L.narrow h.2 hAB⟩
theorem vx_Zqof {args : Array Value} {s : State} {C n d : String} {A : Nat → Prop} (hl : (Cond.laysStatic C n d).before args s = true) (hini : (Cond.initialized C).before args s = true) (h : (Cond.isRef (.static C n d)).before args s = true) (hA : ∀ a : Nat, a < s.heap.size → ¬ A a) : vx_Zq C n d A s s.heap := by
  refine ⟨va_Zqof hl hini h hA, ?_⟩
  obtain ⟨c, k, i, f, a, cell, h1, h2, h3, h4, h5, h6, h7, h8, h9⟩ := Cond.laysStatic_spec hl
  exact ⟨c, k, i, f, a, cell, h1, h2, h3, h4, h5, h6, h7, h8, h9, hA a (Array.getElem?_eq_some_iff.mp h5).1⟩
theorem vx_isRef {C n d : String} {v : Value} {A : Nat → Prop} {s : State} {args : Array Value} (h : va_Z C n d v A s s.heap) (hv : v.isRef = true) : (Cond.isRef (.static C n d)).before args s = true := by
  obtain ⟨cf, kf, fi, f, a, cell, h1, h2, h3, h4, h5, h6, h7, -⟩ := h
  have he : (Term.static C n d).eval args s none [] s = some v := by
    simp [Term.eval, State.fieldNamed?, h1, h2, h4, h5, h6, h7]
  simp only [Cond.before, Cond.holds, Cond.value, he]
  cases v <;> simp_all [Value.isRef]
theorem vx_isRefq {C n d : String} {A : Nat → Prop} {s : State} {args : Array Value} (h : va_Zq C n d A s s.heap) : (Cond.isRef (.static C n d)).before args s = true := by
  rcases h with h | ⟨t, h⟩
  · exact vx_isRef h rfl
  · exact vx_isRef h rfl
/-- the same frame, seen from here: as if the method were called anew in this heap -/
theorem vx_rebase {T : State} (X : Stand p l e R s m args below meth c T locs cells slots) {R' : Room} (hf : R'.frames ≤ R.frames) (hl : R'.locals ≤ R.locals) (hc : cells + R'.cells ≤ R.cells) (hs : slots + R'.slots ≤ R.slots) :
    Stand p l e R' ((T.setVm s.vm).setFrames (.invoking m args :: below)) m args below meth c T [] 0 0 := by
  have htop : (T.setVm s.vm).topJava?.isSome := X.here.top
  have hF : ((T.setVm s.vm).setFrames (.invoking m args :: below)).frames = .invoking m args :: below := State.frames_setFrames _ (State.cur_lt_of_top htop)
  obtain ⟨g₀, hg0⟩ := Option.isSome_iff_exists.mp htop
  obtain ⟨r, hr⟩ := State.topJava?_eq_some.mp hg0
  have hl9 : e.platform.stackLimits (T.setVm s.vm).me = e.platform.stackLimits s.me := X.limits
  have hb9 : (T.setVm s.vm).me.stackBytes = s.me.stackBytes := X.bytes
  refine ⟨X.admits, X.cas, X.clock, hF, ?_, X.hears, X.method, X.code, X.here, X.tail, X.warmed, ?_, ?_, ?_⟩
  · have h := X.room
    have hU : ((T.setVm s.vm).setFrames (.invoking m args :: below)).localsInUse = s.localsInUse := by
      rw [State.localsInUse_invoking hF (meth := meth) (c := c) X.method X.code, State.localsInUse_invoking X.frames X.method X.code]
    simp only [State.hasRoom, Bool.and_eq_true, decide_eq_true_eq] at h ⊢
    obtain ⟨⟨⟨⟨h1, h2, h3, h4, h5, h6⟩, h7⟩, h8⟩, h9⟩ := h
    rw [X.frames, List.length_cons] at h2 h3
    have q1 := X.heapSize
    have q2 := X.used
    simp only [hF, hU, List.length_cons, State.stackLimits_setFrames, State.stackBytes_setFrames, hl9, hb9]
    refine ⟨⟨⟨⟨by omega, by omega, by omega, by omega, by omega, h6⟩, ?_⟩, ?_⟩, X.book⟩
    · show T.heap.size + R'.cells ≤ e.platform.maxCells
      omega
    · show T.slotsUsed + R'.slots ≤ e.platform.maxSlots
      omega
  · rw [State.stackLimits_setFrames]; rfl
  · rw [State.stackBytes_setFrames]; rfl
  · refine ⟨?_, Nat.le_refl _, Nat.le_refl _, ?_, ?_, fun a c9 h9 => ⟨c9, h9, rfl, rfl, fun _ _ => rfl⟩⟩
    · obtain ⟨t, ht, -⟩ := State.frames_cons hr
      show T.setVm s.vm = { ((T.setVm s.vm).setFrames (.invoking m args :: below)).setFrames (T.setVm s.vm).frames with heap := T.heap, slotsUsed := T.slotsUsed }
      rw [State.setFrames_setFrames, State.setFrames_self ht]
      rfl
    · show T.slotsUsed = T.slotsUsed + ((T.heap.toList.drop T.heap.size).map (·.slots.size)).sum
      rw [List.drop_eq_nil_of_le (Nat.le_of_eq Array.length_toList)]
      rfl
    · show ((T.heap.toList.drop T.heap.size).map (·.slots.size)).sum ≤ 0
      rw [List.drop_eq_nil_of_le (Nat.le_of_eq Array.length_toList)]
      exact Nat.le_refl _
/-- 'throw new E()': new; dup; invokespecial; athrow -/
theorem vx_throw0 {cc : ByteArray} {pc : Nat} (hexec : p.tables.exec = Jvm.exec) (hb : c.code = cc) (hl : l.stackTraces = false) {own cls : String} {names : List String} {ik ic mc ms : Nat} {A : Nat → Prop}
    (hown : s.vm.findClass own = some m.cls) (hcls : Bundle.fit cls = true) (hnames : ∀ n ∈ names, Bundle.fit n = true)
    (hk : (Cond.classLink own ik cls).before args s = true) (hini : (Cond.initialized cls).before args s = true) (hat : ∀ w ∈ vx_at0 own ic cls names, w.before args s = true)
    (hgood : ∀ w ∈ Cond.classLink own ik cls :: Cond.initialized cls :: vx_at0 own ic cls names, vx_ot w = true)
    (hU : vx_Zq Bundle.tN "UNASSIGNED_STACK" Bundle.steD A s s.heap) (hN : vx_Zq Bundle.tN "SUPPRESSED_SENTINEL" Bundle.listD A s s.heap) (hS : va_S A s.heap H locs) (hsize : ls.size = c.maxLocals)
    (d0 : decode cc pc = .ok (.new ik, 3)) (d3 : decode cc (pc + 3) = .ok (.dup, 1)) (d4 : decode cc (pc + 4) = .ok (.invokespecial ic, 3)) (d7 : decode cc (pc + 7) = .ok (.athrow, 1))
    (hout : ∀ x ∈ c.exceptionTable.toList, covers x (pc + 7) = false)
    (hRframes : names.length + 3 < R.frames) (hRlocals : (rest.map fun v => v.category).sum + (13 * (names.length + 1) + 42) ≤ R.locals) (hRcells : cells + 1 ≤ R.cells) (hRslots : slots + 6 ≤ R.slots) (hlocks : meth.locks = false)
    (hx : ∀ t : State, s.vm.Alike t.vm → H.size ≤ t.heap.size → (∀ q : Nat, q < H.size → t.heap[q]? = H[q]?) → XC cls s t)
    (hf : ∀ z ∈ locs, free z.base) (hc : cells + 1 ≤ mc) (hs : slots + 6 ≤ ms) :
    W p l e R s m args below meth c H locs cells slots (vx_MQ below Qc XC args s mc ms free) (F0 m pc ls rest) := by
  intro T hT X
  have htr : e.platform.stackTraces = false := (show e.platform.stackTraces = l.stackTraces by rw [X.admits.platform]).trans hl
  have Y := vx_rebase X (R' := { frames := R.frames, locals := R.locals, cells := 1, slots := 6 }) (Nat.le_refl _) (Nat.le_refl _) hRcells hRslots
  obtain ⟨s', hA⟩ : ∃ z, z = (T.setVm s.vm).setFrames (.invoking m args :: below) := ⟨_, rfl⟩
  rw [← hA] at Y
  have hvm : s'.vm = s.vm := by rw [hA]; rfl
  have hhp : s'.heap = H := by rw [hA]; exact hT
  have hW0 : s.WarmedH s'.vm := by rw [hvm]; exact State.WarmedH.refl s
  have hat' : ∀ w ∈ vx_at0 own ic cls names, w.before args s' = true := fun w hw => vx_ot_at hW0 hvm.symm (hgood w (List.mem_cons_of_mem _ (List.mem_cons_of_mem _ hw))) (hat w hw)
  have hk' : (Cond.classLink own ik cls).before args s' = true := vx_ot_at hW0 hvm.symm (hgood _ List.mem_cons_self) hk
  have hini' : (Cond.initialized cls).before args s' = true := vx_ot_at hW0 hvm.symm (hgood _ (List.mem_cons_of_mem _ List.mem_cons_self)) hini
  have hU' : vx_Zq Bundle.tN "UNASSIGNED_STACK" Bundle.steD A s' s'.heap := by rw [hhp]; exact vx_Zq.moved hW0.alike (hU.kept hS.2.1)
  have hN' : vx_Zq Bundle.tN "SUPPRESSED_SENTINEL" Bundle.listD A s' s'.heap := by rw [hhp]; exact vx_Zq.moved hW0.alike (hN.kept hS.2.1)
  have h : ∀ w ∈ Bundle.ownAtoms0 own ic cls names, w.before args s' = true := vx_own hat' (vx_isRefq hU'.1) (vx_isRefq hN'.1) hU'.2.word hN'.2.word
  have hown' : s'.vm.findClass own = some m.cls := by rw [hvm]; exact hown
  have hins : (Cond.instantiable cls 6).before args s' = true := h _ (by simp [Bundle.ownAtoms0])
  obtain ⟨vm₁, cX, kX, hfX, hkX, -, -, X₁, st1⟩ := Y.newCold hexec (own := own) (C := cls) (index := ik) (n := 6) hown' hk' hins hini'
    (g := F0 m pc ls rest) rfl (by rw [hb]; exact d0) (Nat.le_refl _) (Nat.le_refl _)
  generalize hT1 : (T.setVm vm₁).pushCell { cls := cX, slots := kX.instanceTypes.map defaultValue, vm := .none } = T1 at X₁ st1
  have hcat : (Value.ref T.heap.size).category = 1 := rfl
  have hcellA : T1.heap[T.heap.size]? = some (freshCell cX kX) := by rw [← hT1]; exact State.heap_pushCell_size _ _
  have d3' : decode c.code (pc + 3) = .ok (.dup, 1) := by rw [hb]; exact d3
  obtain ⟨U, hsteps, hrun, hend, hW, hsame, ce, hce, hO⟩ := X₁.ctorThrow0 hexec htr (own := own) (cls := cls) (names := names) (ic := ic) hown' hcls hnames h (fun x hx => nomatch hx) hfX hkX hcellA (by rw [hhp, hT]; exact Nat.le_refl _)
    (g := { method := m, pc := pc + 4, locals := ls, stack := .ref T.heap.size :: .ref T.heap.size :: rest, locked := none }) rfl hsize rfl rfl (rest := rest) rfl
    (by rw [hb]; exact d4) (by rw [hb]; exact d7) hout hRframes (by simp only [List.map_cons, List.sum_cons, hcat]; omega) hlocks
  obtain ⟨f1, f2⟩ := vx_frame hsame
  rw [hhp] at f1 f2
  have hWs : s.WarmedH U.vm := State.WarmedH.trans hW0 hW
  have hcl : s.vm.findClass cls = some ce.cls := by
    have h9 := hO.cls
    rw [hvm] at h9
    exact h9
  have hall : s.sameButNew ({ U with vm := s.vm } : State) locs mc ms := by
    subst hA
    obtain ⟨e1, e2⟩ := hsame
    rw [State.setFrames_setFrames] at e1
    have h2 : (T.setVm s.vm).sameButNew ({ U with vm := s.vm } : State) [] (0 + 1) (0 + 6) := ⟨e1, e2⟩
    have h3 := X.same.trans h2
    rw [List.append_nil] at h3
    exact h3.mono hc hs
  refine ⟨U, ?_, .threw T.heap.size, hrun, hend, Or.inr ⟨T.heap.size, rfl, cls, ce, locs, hx U hWs.alike f1 (fun q hq => f2 q hq (fun z hz => nomatch hz)), hce, hO.vm, hcl, hWs, hall, hf⟩⟩
  refine st1 _ ?_
  show Steps p.tables e below (T1.setTop { method := m, pc := pc + 3, locals := ls, stack := .ref T.heap.size :: rest, locked := none }) _
  jvm_step X₁.here [X₁.here.top, hexec, d3', Value.category]
  exact hsteps
/-- 'throw new E("text")': new; dup; ldc; invokespecial; athrow -/
theorem vx_throwS {cc : ByteArray} {pc : Nat} (hexec : p.tables.exec = Jvm.exec) (hb : c.code = cc) (hl : l.stackTraces = false) {own cls text : String} {names : List String} {ik is ic mc ms sa : Nat} {A : Nat → Prop}
    (hown : s.vm.findClass own = some m.cls) (hcls : Bundle.fit cls = true) (hnames : ∀ n ∈ names, Bundle.fit n = true)
    (hk : (Cond.classLink own ik cls).before args s = true) (hini : (Cond.initialized cls).before args s = true) (hstr : vk_R own is text sa s) (hat : ∀ w ∈ vx_atS own ic cls names, w.before args s = true)
    (hgood : ∀ w ∈ Cond.classLink own ik cls :: Cond.initialized cls :: vx_atS own ic cls names, vx_ot w = true)
    (hU : vx_Zq Bundle.tN "UNASSIGNED_STACK" Bundle.steD A s s.heap) (hN : vx_Zq Bundle.tN "SUPPRESSED_SENTINEL" Bundle.listD A s s.heap) (hS : va_S A s.heap H locs) (hsize : ls.size = c.maxLocals)
    (d0 : decode cc pc = .ok (.new ik, 3)) (d3 : decode cc (pc + 3) = .ok (.dup, 1)) (d4 : decode cc (pc + 4) = .ok (.ldc is, 2)) (d6 : decode cc (pc + 6) = .ok (.invokespecial ic, 3)) (d9 : decode cc (pc + 9) = .ok (.athrow, 1))
    (hout : ∀ x ∈ c.exceptionTable.toList, covers x (pc + 9) = false)
    (hRframes : names.length + 3 < R.frames) (hRlocals : (rest.map fun v => v.category).sum + (13 * (names.length + 1) + 43) ≤ R.locals) (hRcells : cells + 1 ≤ R.cells) (hRslots : slots + 6 ≤ R.slots) (hlocks : meth.locks = false)
    (hx : ∀ t : State, s.vm.Alike t.vm → H.size ≤ t.heap.size → (∀ q : Nat, q < H.size → t.heap[q]? = H[q]?) → XC cls s t)
    (hf : ∀ z ∈ locs, free z.base) (hc : cells + 1 ≤ mc) (hs : slots + 6 ≤ ms) :
    W p l e R s m args below meth c H locs cells slots (vx_MQ below Qc XC args s mc ms free) (F0 m pc ls rest) := by
  intro T hT X
  have htr : e.platform.stackTraces = false := (show e.platform.stackTraces = l.stackTraces by rw [X.admits.platform]).trans hl
  have Y := vx_rebase X (R' := { frames := R.frames, locals := R.locals, cells := 1, slots := 6 }) (Nat.le_refl _) (Nat.le_refl _) hRcells hRslots
  obtain ⟨s', hA⟩ : ∃ z, z = (T.setVm s.vm).setFrames (.invoking m args :: below) := ⟨_, rfl⟩
  rw [← hA] at Y
  have hvm : s'.vm = s.vm := by rw [hA]; rfl
  have hhp : s'.heap = H := by rw [hA]; exact hT
  have hW0 : s.WarmedH s'.vm := by rw [hvm]; exact State.WarmedH.refl s
  have hat' : ∀ w ∈ vx_atS own ic cls names, w.before args s' = true := fun w hw => vx_ot_at hW0 hvm.symm (hgood w (List.mem_cons_of_mem _ (List.mem_cons_of_mem _ hw))) (hat w hw)
  have hk' : (Cond.classLink own ik cls).before args s' = true := vx_ot_at hW0 hvm.symm (hgood _ List.mem_cons_self) hk
  have hini' : (Cond.initialized cls).before args s' = true := vx_ot_at hW0 hvm.symm (hgood _ (List.mem_cons_of_mem _ List.mem_cons_self)) hini
  have hU' : vx_Zq Bundle.tN "UNASSIGNED_STACK" Bundle.steD A s' s'.heap := by rw [hhp]; exact vx_Zq.moved hW0.alike (hU.kept hS.2.1)
  have hN' : vx_Zq Bundle.tN "SUPPRESSED_SENTINEL" Bundle.listD A s' s'.heap := by rw [hhp]; exact vx_Zq.moved hW0.alike (hN.kept hS.2.1)
  have h : ∀ w ∈ Bundle.ownAtoms own ic cls names, w.before args s' = true := vx_own hat' (vx_isRefq hU'.1) (vx_isRefq hN'.1) hU'.2.word hN'.2.word
  have hown' : s'.vm.findClass own = some m.cls := by rw [hvm]; exact hown
  have hins : (Cond.instantiable cls 6).before args s' = true := h _ (by simp [Bundle.ownAtoms])
  obtain ⟨vm₁, cX, kX, hfX, hkX, -, -, X₁, st1⟩ := Y.newCold hexec (own := own) (C := cls) (index := ik) (n := 6) hown' hk' hins hini'
    (g := F0 m pc ls rest) rfl (by rw [hb]; exact d0) (Nat.le_refl _) (Nat.le_refl _)
  generalize hT1 : (T.setVm vm₁).pushCell { cls := cX, slots := kX.instanceTypes.map defaultValue, vm := .none } = T1 at X₁ st1
  have hcat : (Value.ref T.heap.size).category = 1 := rfl
  have hcellA : T1.heap[T.heap.size]? = some (freshCell cX kX) := by rw [← hT1]; exact State.heap_pushCell_size _ _
  have d3' : decode c.code (pc + 3) = .ok (.dup, 1) := by rw [hb]; exact d3
  have d4' : decode c.code (pc + 4) = .ok (.ldc is, 2) := by rw [hb]; exact d4
  have hstr' : vk_R own is text sa s' := vk_R.warm hW0 hstr
  obtain ⟨U, hsteps, hrun, hend, hW, hsame, ce, hce, hO⟩ := X₁.ctorThrowS hexec htr (own := own) (cls := cls) (names := names) (ic := ic) hown' hcls hnames h (fun x hx => nomatch hx) hfX hkX hcellA (by rw [hhp, hT]; exact Nat.le_refl _) (msg := .ref sa) rfl
    (g := { method := m, pc := pc + 6, locals := ls, stack := .ref sa :: .ref T.heap.size :: .ref T.heap.size :: rest, locked := none }) rfl hsize rfl rfl (rest := rest) rfl
    (by rw [hb]; exact d6) (by rw [hb]; exact d9) hout hRframes (by simp only [List.map_cons, List.sum_cons, hcat]; omega) hlocks
  obtain ⟨f1, f2⟩ := vx_frame hsame
  rw [hhp] at f1 f2
  have hWs : s.WarmedH U.vm := State.WarmedH.trans hW0 hW
  have hcl : s.vm.findClass cls = some ce.cls := by
    have h9 := hO.cls
    rw [hvm] at h9
    exact h9
  have hall : s.sameButNew ({ U with vm := s.vm } : State) locs mc ms := by
    subst hA
    obtain ⟨e1, e2⟩ := hsame
    rw [State.setFrames_setFrames] at e1
    have h2 : (T.setVm s.vm).sameButNew ({ U with vm := s.vm } : State) [] (0 + 1) (0 + 6) := ⟨e1, e2⟩
    have h3 := X.same.trans h2
    rw [List.append_nil] at h3
    exact h3.mono hc hs
  refine ⟨U, ?_, .threw T.heap.size, hrun, hend, Or.inr ⟨T.heap.size, rfl, cls, ce, locs, hx U hWs.alike f1 (fun q hq => f2 q hq (fun z hz => nomatch hz)), hce, hO.vm, hcl, hWs, hall, hf⟩⟩
  refine st1 _ ?_
  show Steps p.tables e below (T1.setTop { method := m, pc := pc + 3, locals := ls, stack := .ref T.heap.size :: rest, locked := none }) _
  jvm_step X₁.here [X₁.here.top, hexec, d3', Value.category]
  exact X₁.ldcString hexec (own := own) (text := text) (index := is) (a := sa) hown' hstr'.1 hstr'.2
    (g := { method := m, pc := pc + 4, locals := ls, stack := .ref T.heap.size :: .ref T.heap.size :: rest, locked := none }) rfl d4' _ hsteps
/-- 'throw new E("text")', the text by a wide index -/
theorem vx_throwSW {cc : ByteArray} {pc : Nat} (hexec : p.tables.exec = Jvm.exec) (hb : c.code = cc) (hl : l.stackTraces = false) {own cls text : String} {names : List String} {ik is ic mc ms sa : Nat} {A : Nat → Prop}
    (hown : s.vm.findClass own = some m.cls) (hcls : Bundle.fit cls = true) (hnames : ∀ n ∈ names, Bundle.fit n = true)
    (hk : (Cond.classLink own ik cls).before args s = true) (hini : (Cond.initialized cls).before args s = true) (hstr : vk_R own is text sa s) (hat : ∀ w ∈ vx_atS own ic cls names, w.before args s = true)
    (hgood : ∀ w ∈ Cond.classLink own ik cls :: Cond.initialized cls :: vx_atS own ic cls names, vx_ot w = true)
    (hU : vx_Zq Bundle.tN "UNASSIGNED_STACK" Bundle.steD A s s.heap) (hN : vx_Zq Bundle.tN "SUPPRESSED_SENTINEL" Bundle.listD A s s.heap) (hS : va_S A s.heap H locs) (hsize : ls.size = c.maxLocals)
    (d0 : decode cc pc = .ok (.new ik, 3)) (d3 : decode cc (pc + 3) = .ok (.dup, 1)) (d4 : decode cc (pc + 4) = .ok (.ldc_w is, 3)) (d7 : decode cc (pc + 7) = .ok (.invokespecial ic, 3)) (d10 : decode cc (pc + 10) = .ok (.athrow, 1))
    (hout : ∀ x ∈ c.exceptionTable.toList, covers x (pc + 10) = false)
    (hRframes : names.length + 3 < R.frames) (hRlocals : (rest.map fun v => v.category).sum + (13 * (names.length + 1) + 43) ≤ R.locals) (hRcells : cells + 1 ≤ R.cells) (hRslots : slots + 6 ≤ R.slots) (hlocks : meth.locks = false)
    (hx : ∀ t : State, s.vm.Alike t.vm → H.size ≤ t.heap.size → (∀ q : Nat, q < H.size → t.heap[q]? = H[q]?) → XC cls s t)
    (hf : ∀ z ∈ locs, free z.base) (hc : cells + 1 ≤ mc) (hs : slots + 6 ≤ ms) :
    W p l e R s m args below meth c H locs cells slots (vx_MQ below Qc XC args s mc ms free) (F0 m pc ls rest) := by
  intro T hT X
  have htr : e.platform.stackTraces = false := (show e.platform.stackTraces = l.stackTraces by rw [X.admits.platform]).trans hl
  have Y := vx_rebase X (R' := { frames := R.frames, locals := R.locals, cells := 1, slots := 6 }) (Nat.le_refl _) (Nat.le_refl _) hRcells hRslots
  obtain ⟨s', hA⟩ : ∃ z, z = (T.setVm s.vm).setFrames (.invoking m args :: below) := ⟨_, rfl⟩
  rw [← hA] at Y
  have hvm : s'.vm = s.vm := by rw [hA]; rfl
  have hhp : s'.heap = H := by rw [hA]; exact hT
  have hW0 : s.WarmedH s'.vm := by rw [hvm]; exact State.WarmedH.refl s
  have hat' : ∀ w ∈ vx_atS own ic cls names, w.before args s' = true := fun w hw => vx_ot_at hW0 hvm.symm (hgood w (List.mem_cons_of_mem _ (List.mem_cons_of_mem _ hw))) (hat w hw)
  have hk' : (Cond.classLink own ik cls).before args s' = true := vx_ot_at hW0 hvm.symm (hgood _ List.mem_cons_self) hk
  have hini' : (Cond.initialized cls).before args s' = true := vx_ot_at hW0 hvm.symm (hgood _ (List.mem_cons_of_mem _ List.mem_cons_self)) hini
  have hU' : vx_Zq Bundle.tN "UNASSIGNED_STACK" Bundle.steD A s' s'.heap := by rw [hhp]; exact vx_Zq.moved hW0.alike (hU.kept hS.2.1)
  have hN' : vx_Zq Bundle.tN "SUPPRESSED_SENTINEL" Bundle.listD A s' s'.heap := by rw [hhp]; exact vx_Zq.moved hW0.alike (hN.kept hS.2.1)
  have h : ∀ w ∈ Bundle.ownAtoms own ic cls names, w.before args s' = true := vx_own hat' (vx_isRefq hU'.1) (vx_isRefq hN'.1) hU'.2.word hN'.2.word
  have hown' : s'.vm.findClass own = some m.cls := by rw [hvm]; exact hown
  have hins : (Cond.instantiable cls 6).before args s' = true := h _ (by simp [Bundle.ownAtoms])
  obtain ⟨vm₁, cX, kX, hfX, hkX, -, -, X₁, st1⟩ := Y.newCold hexec (own := own) (C := cls) (index := ik) (n := 6) hown' hk' hins hini'
    (g := F0 m pc ls rest) rfl (by rw [hb]; exact d0) (Nat.le_refl _) (Nat.le_refl _)
  generalize hT1 : (T.setVm vm₁).pushCell { cls := cX, slots := kX.instanceTypes.map defaultValue, vm := .none } = T1 at X₁ st1
  have hcat : (Value.ref T.heap.size).category = 1 := rfl
  have hcellA : T1.heap[T.heap.size]? = some (freshCell cX kX) := by rw [← hT1]; exact State.heap_pushCell_size _ _
  have d3' : decode c.code (pc + 3) = .ok (.dup, 1) := by rw [hb]; exact d3
  have d4' : decode c.code (pc + 4) = .ok (.ldc_w is, 3) := by rw [hb]; exact d4
  have hstr' : vk_R own is text sa s' := vk_R.warm hW0 hstr
  obtain ⟨U, hsteps, hrun, hend, hW, hsame, ce, hce, hO⟩ := X₁.ctorThrowS hexec htr (own := own) (cls := cls) (names := names) (ic := ic) hown' hcls hnames h (fun x hx => nomatch hx) hfX hkX hcellA (by rw [hhp, hT]; exact Nat.le_refl _) (msg := .ref sa) rfl
    (g := { method := m, pc := pc + 7, locals := ls, stack := .ref sa :: .ref T.heap.size :: .ref T.heap.size :: rest, locked := none }) rfl hsize rfl rfl (rest := rest) rfl
    (by rw [hb]; exact d7) (by rw [hb]; exact d10) hout hRframes (by simp only [List.map_cons, List.sum_cons, hcat]; omega) hlocks
  obtain ⟨f1, f2⟩ := vx_frame hsame
  rw [hhp] at f1 f2
  have hWs : s.WarmedH U.vm := State.WarmedH.trans hW0 hW
  have hcl : s.vm.findClass cls = some ce.cls := by
    have h9 := hO.cls
    rw [hvm] at h9
    exact h9
  have hall : s.sameButNew ({ U with vm := s.vm } : State) locs mc ms := by
    subst hA
    obtain ⟨e1, e2⟩ := hsame
    rw [State.setFrames_setFrames] at e1
    have h2 : (T.setVm s.vm).sameButNew ({ U with vm := s.vm } : State) [] (0 + 1) (0 + 6) := ⟨e1, e2⟩
    have h3 := X.same.trans h2
    rw [List.append_nil] at h3
    exact h3.mono hc hs
  refine ⟨U, ?_, .threw T.heap.size, hrun, hend, Or.inr ⟨T.heap.size, rfl, cls, ce, locs, hx U hWs.alike f1 (fun q hq => f2 q hq (fun z hz => nomatch hz)), hce, hO.vm, hcl, hWs, hall, hf⟩⟩
  refine st1 _ ?_
  show Steps p.tables e below (T1.setTop { method := m, pc := pc + 3, locals := ls, stack := .ref T.heap.size :: rest, locked := none }) _
  jvm_step X₁.here [X₁.here.top, hexec, d3', Value.category]
  exact X₁.ldcStringW hexec (own := own) (text := text) (index := is) (a := sa) hown' hstr'.1 hstr'.2
    (g := { method := m, pc := pc + 4, locals := ls, stack := .ref T.heap.size :: .ref T.heap.size :: rest, locked := none }) rfl d4' _ hsteps
end Ends
section Bodies
variable {l : Launch}
theorem vx_ofW {y : MethodName} {ws ws' : List Cond} {rm : Room} {Pc : Array Value → State → Prop} {Qc : Array Value → State → Outcome → State → Prop} {XC : String → State → State → Prop} {mc ms : Nat} {free : Addr → Prop} {cc : ByteArray} {maxL : Nat} {ret : Option FieldType}
    (hy : plainName y.cls = true) (hw : ws = Cond.code y cc maxL ret :: ws')
    (body : ∀ p e s m args below meth c s₁, BodyLoose p l y (headSpec ws rm) cc maxL ret e s m args below meth c s₁ → c.maxLocals = maxL → (∀ x ∈ c.exceptionTable.toList, False) → Pc args s →
      W p l e (headSpec ws rm).room s m args below meth c s.heap [] 0 0 (vx_MQ below Qc XC args s mc ms free) (entryFrame m args maxL)) : vx_Met l y ws rm Pc Qc XC mc ms free := by
  refine MetFree.of_bodyS (code := cc) (maxLocals := maxL) (ret := ret) hy ?_ ?_
  · intro args s m h hn
    obtain ⟨meth, c, h1, h2, h3, h4, h5, h6, -, -⟩ := Cond.code_spec hn (atoms_spec (ws := ws) h _ (by rw [hw]; exact List.mem_cons_self))
    exact ⟨meth, c, h1, h2, h3, h4, h5, h6⟩
  · intro p e s m args below meth c s₁ B hml hP _
    have hh0 : s₁.heap = s.heap := by rw [B.state]; rfl
    have ht : ∀ x ∈ c.exceptionTable.toList, False := by
      obtain ⟨meth9, c9, h1, h2, -, -, -, -, h7, -⟩ := Cond.code_spec B.named (atoms_spec (ws := ws) B.pre _ (by rw [hw]; exact List.mem_cons_self))
      cases Option.some.inj (h1.symm.trans B.method)
      cases Option.some.inj (h2.symm.trans (Stand.of_body B).code)
      intro x hx
      rw [Array.isEmpty_iff.mp h7] at hx
      cases hx
    obtain ⟨t, a1, o, b1, b2, b3⟩ := body p e s m args below meth c s₁ B hml ht hP s₁ hh0 (Stand.of_body B)
    exact ⟨t, o, a1, b1, b2, b3⟩
/-- the table of a body with handlers -/
theorem vx_table {p : Program} {x y : MethodName} {S : Spec} {cc bytes : ByteArray} {maxL maxL' : Nat} {ret ret' : Option FieldType} {e : Env} {s s₁ : State} {m : MethodId} {args : Array Value} {below : List Frame} {meth : Method} {c : Code} {hh : List (Nat × Nat × Nat × Nat)}
    (B : BodyLoose p l y S cc maxL ret e s m args below meth c s₁) (h : (Cond.codeWith y bytes maxL' ret' hh).before args s = true) : c.exceptionTable.toList = tableOf hh := by
  obtain ⟨m9, meth9, c9, hn9, h1, h2, -, -, h6, -⟩ := Cond.codeWith_spec h
  cases Option.some.inj (hn9.symm.trans B.named)
  cases Option.some.inj (h1.symm.trans B.method)
  cases Option.some.inj (h2.symm.trans (Stand.of_body B).code)
  rw [← h6, table_eq]
end Bodies
end VXA
/-! ===== END ===== -/
/-! ===== BEGIN a static call of a method with an exception table ===== -/
section VXS
variable {p : Program} {l : Launch} {e : Env} {R : Room} {s : State} {m : MethodId} {args : Array Value} {below : List Frame} {meth : Method} {c : Code} {T : State} {H : Heap} {locs : List Loc} {cells slots : Nat}
abbrev vx_CSW (R : Room) (s : State) (args : Array Value) (own : String) (index : Nat) (y : MethodName) (bytes : ByteArray) (maxL : Nat) (ret : Option FieldType) (hh : List (Nat × Nat × Nat × Nat)) (ws : List Cond) (rm : Room) (mc ms n : Nat) : Prop :=
  (rm.cells = mc ∧ rm.slots = ms ∧ rm.frames + 1 ≤ R.frames ∧ 8 + (maxL + 11) + rm.locals ≤ R.locals ∧ (∀ w ∈ ws, ∀ (a' : Array Value) (U : State), s.WarmedH U.vm → w.before a' U = true) ∧ Cond.codeWith y bytes maxL ret hh ∈ ws) ∧
  (Cond.codeWith y bytes maxL ret hh).before args s = true ∧ (Cond.initialized y.cls).before args s = true ∧ (y.cls ≠ "java/lang/invoke/MethodHandle" ∧ y.cls ≠ "java/lang/invoke/VarHandle") ∧
  (∀ sig, parseMethodDescriptor y.desc = some sig → n = sig.parameters.length) ∧ (Cond.methodLink own index y).before args s = true ∧ (Cond.static y).before args s = true
theorem vx_cwSW {own : String} {index maxL mc ms : Nat} {y : MethodName} {bytes : ByteArray} {ret : Option FieldType} {hh : List (Nat × Nat × Nat × Nat)} {Ts ws ws' : List Cond} {rm : Room} (n : Nat) (ht : ∀ w ∈ Ts, w.before args s = true) (hT : GoodIn Ts (va_wsS own index y ws)) (hw : ws = Cond.codeWith y bytes maxL ret hh :: ws') (hrc : rm.cells = mc) (hrs : rm.slots = ms)
    (hd : y.cls ≠ "java/lang/invoke/MethodHandle" ∧ y.cls ≠ "java/lang/invoke/VarHandle" ∧ (parseMethodDescriptor y.desc).map (fun d => d.parameters.length) = some n) (hR : rm.frames + 1 ≤ R.frames ∧ 8 + (maxL + 11) + rm.locals ≤ R.locals) :
    vx_CSW R s args own index y bytes maxL ret hh ws rm mc ms n := by
  have ok : ∀ w ∈ va_wsS own index y ws, w.before args s = true := fun w h => ht w (hT w h).1
  have hG : GoodIn Ts ws := fun w h => hT w (by unfold va_wsS; exact List.mem_append_right _ h)
  have hc : Cond.codeWith y bytes maxL ret hh ∈ ws := by rw [hw]; exact List.mem_cons_self
  refine ⟨⟨hrc, hrs, hR.1, hR.2, pay_in ht hG, hc⟩, ht _ (hG _ hc).1, ok _ (by simp [va_wsS]), ⟨hd.1, hd.2.1⟩, fun sig h => ?_, ok _ (by simp [va_wsS]), ok _ (by simp [va_wsS])⟩
  have h2 := hd.2.2
  rw [h] at h2
  exact (Option.some.inj h2).symm
theorem vx_callSW (X : Stand p l e R s m args below meth c T locs cells slots) (hexec : p.tables.exec = Jvm.exec) {own : String} {index : Nat} {y : MethodName} {bytes : ByteArray} {maxL : Nat} {ret : Option FieldType} {hh : List (Nat × Nat × Nat × Nat)}
    (hown : s.vm.findClass own = some m.cls) (hlink : (Cond.methodLink own index y).before args s = true) (hstat : (Cond.static y).before args s = true) (hinit : (Cond.initialized y.cls).before args s = true)
    (hcode : (Cond.codeWith y bytes maxL ret hh).before args s = true) (hy : y.cls ≠ "java/lang/invoke/MethodHandle" ∧ y.cls ≠ "java/lang/invoke/VarHandle")
    {W9 : Nat} {Pre : Pt → Array Value → Prop} {Post : Pt → Array Value → Option Value → Pt → Prop} (hK : Back l R p e below s args y 3 W9 Pre Post)
    {g : JFrame} (hg : g.method = m) (hsize : g.locals.size = c.maxLocals) {argsL rest : List Value} (hlen : ∀ sig, parseMethodDescriptor y.desc = some sig → argsL.length = sig.parameters.length)
    (hstack : g.stack = argsL.reverse ++ rest) (hW : 2 * g.monitorRoom + (rest.map fun v => v.category).sum ≤ W9) (hdg : decode c.code g.pc = .ok (.invokestatic index, 3))
    (hpre : ∀ vm₁, s.WarmedH vm₁ → Pre ⟨T.setVm vm₁, locs, cells, slots⟩ argsL.toArray) :
    ∃ (v : Option Value) (vm₁ : Vm) (B : Pt), s.WarmedH vm₁ ∧ Stand p l e R s m args below meth c B.U B.locs B.cells B.slots ∧ Post ⟨T.setVm vm₁, locs, cells, slots⟩ argsL.toArray v B ∧
      ∀ target, Steps p.tables e below (B.U.setTop { g with pc := g.pc + 3, stack := v.toList ++ rest }) target → Steps p.tables e below (T.setTop g) target := by
  obtain ⟨mk, methM, cM, hnamed, hmethM, -, -, -, -, -, -, hsigM⟩ := Cond.codeWith_spec hcode
  have hstatic : methM.isStatic = true := Cond.static_spec hnamed hmethM hstat
  obtain ⟨kP, hkP, -⟩ := className_of_methodNamed hnamed
  have hinitP : kP.init = .initialized := Cond.initialized_spec (findClass_of_methodNamed hnamed) hkP hinit
  obtain ⟨vm₁, X₁, hstep₁⟩ := X.invokestatic hexec hown hlink hnamed hmethM hstatic hkP hinitP hy (g := g) hg (argsL := argsL) (rest := rest) (hlen _ hsigM) hstack hdg
  obtain ⟨v, B, X', hpost, hsteps⟩ := hK m meth c ⟨T.setVm vm₁, locs, cells, slots⟩ { g with stack := rest } (.invokestatic index) mk argsL.toArray X₁ hg hsize hdg hW (X₁.named hnamed) (hpre vm₁ X₁.warmed)
  exact ⟨v, vm₁, B, X₁.warmed, X', hpost, fun target h => hstep₁ _ fun acts => by rw [doInvoke_state]; exact hsteps.trans h⟩
theorem vx_runSW {y : MethodName} {bytes cc : ByteArray} {maxL nL mc ms n index : Nat} {ret : Option FieldType} {hh : List (Nat × Nat × Nat × Nat)} {ws : List Cond} {rm : Room} {Pc : Array Value → State → Prop} {Qc : Array Value → State → Outcome → State → Prop} {free : Addr → Prop} {Ts : List Cond} {own : String} {As rest : List Value} {g : JFrame}
    (S : CallFix p m c cc nL s args Ts own) (hM : Met l y ws rm Pc Qc mc ms free) (cw : vx_CSW R s args own index y bytes maxL ret hh ws rm mc ms n) (hp : PreS s H Pc As)
    (hg : g.method = m) (hn : As.length = n) (hsize : g.locals.size = nL) (hstack : g.stack = As.reverse ++ rest) (hW : 2 * g.monitorRoom + (rest.map fun v => v.category).sum ≤ 8) (hdg : decode cc g.pc = .ok (.invokestatic index, 3)) (hf : cells + mc ≤ R.cells ∧ slots + ms ≤ R.slots) :
    va_Run p l e R s m args below meth c H locs cells slots mc ms g rest (Qc As.toArray) (free) := by
  obtain ⟨⟨hrc, hrs, hfr, hlo, hws, hcw⟩, hcode, hini, hy, hlen, hl, hstt⟩ := cw
  have hK : Back l R p e below s args y 3 8 (PreOf R mc ms Pc) (PostOf Qc mc ms free) := va_backW (hh := hh) (bytes := bytes) (maxL := maxL) (ret := ret) hM hp.1 hrc hrs hfr hlo hws hcw (fun a' U hW => word_at hW (Or.inl (by first | rfl | simp [Cond.onTables, Cond.keeps, Cond.steady])) hini)
  obtain ⟨hx, hb, hml, ho, -⟩ := S
  intro T hT X
  obtain ⟨v, vm₁, ⟨U', l2, c2, s2⟩, hW₁, X', ⟨g', mk, t, L, e1, e2, hq, h1, hL, h2, h3⟩, st⟩ := vx_callSW X hx (hh := hh) (bytes := bytes) (maxL := maxL) (ret := ret) ho hl hstt hini hcode hy hK hg (hsize.trans hml.symm) (argsL := As) (rest := rest) (fun sig h => hn.trans (hlen sig h)) hstack hW (by rw [hb]; exact hdg)
    (fun vm₁ hW₁ => ⟨hf.1, hf.2, hp.2 (T.setVm vm₁) hT hW₁⟩)
  dsimp only [Pt.U, Pt.locs, Pt.cells, Pt.slots] at X' e1 e2 h1 h2 h3 st
  subst h1; subst h2; subst h3
  exact ⟨v, (T.setVm vm₁).calling g' mk As.toArray, t, U', L, hT, X', hL, e1, e2, hq, st⟩
/-- not caught here, past rows that name other classes: it goes on to the caller -/
theorem vx_outP {p : Program} {l : Launch} {e : Env} {R : Room} {s : State} {m : MethodId} {args : Array Value} {below : List Frame} {meth : Method} {c : Code} {H : Heap} {locs : List Loc} {cells slots : Nat} {free : Addr → Prop} {ls : Array Slot} {rest : List Value} {Qc : Array Value → State → Outcome → State → Prop} {XC : String → State → State → Prop}
    {pc : Nat} {own E : String} {ce : Cell} {q : Addr} {mc ms : Nat} (hown : s.vm.findClass own = some m.cls) (hlocks : meth.locks = false)
    (hpass : ∀ z ∈ c.exceptionTable.toList, covers z pc = false ∨ (z.catchType ≠ 0 ∧ ∃ nm : String, (Cond.classLink own z.catchType nm).before args s = true ∧ va_Nc E nm s)) (hcell : H[q]? = some ce) (hv : ce.vm = .none) (hcl : s.vm.findClass E = some ce.cls)
    (hx : ∀ t : State, t.heap = H → s.vm.Alike t.vm → XC E s t) (hf : ∀ z ∈ locs, free z.base) (hc : cells ≤ mc) (hs : slots ≤ ms) :
    vx_W p l e R s m args below meth c H locs cells slots (vx_MQ below Qc XC args s mc ms free) (F0 m pc ls rest) q := by
  intro T hT X
  have hpl : e.platform.magicAccessors = ({} : Platform).magicAccessors := by rw [X.admits.platform]
  obtain ⟨vm', hW', X', st⟩ := X.outThrough hlocks q (g := F0 m pc ls rest) rfl rfl rfl (cell := ce) (by rw [hT]; exact hcell) (by rw [hv]; rfl)
    (by obtain ⟨k9, h9, -⟩ := Vm.findClass_spec hcl; exact ⟨k9, h9⟩) (fun z hz => by
      rcases hpass z hz with h | ⟨hz0, nm, hl1, hn1⟩
      · exact Or.inl h
      · obtain ⟨c6, hc6, hcl6⟩ := Cond.classLink_spec hown hl1 e.platform hpl
        obtain ⟨a8, b8, h1, h2, h3⟩ := hn1
        cases Option.some.inj (h1.symm.trans hcl)
        cases Option.some.inj (h2.symm.trans hc6)
        exact Or.inr ⟨hz0, _, hcl6, h3⟩)
  obtain ⟨g₀, hfr⟩ := X'.frames_eq
  have hcell9 : ((T.setVm vm').setFrames (.throwing q :: below)).heap[q]? = some ce := by
    show T.heap[q]? = some ce
    rw [hT]; exact hcell
  have hend : Ended ((T.setVm vm').setFrames (.throwing q :: below)) below (.threw q) := State.frames_setFrames _ (State.cur_lt_of_frames hfr)
  refine ⟨(T.setVm vm').setFrames (.throwing q :: below), ?_, .threw q, X'.here.running, hend, Or.inr ⟨q, rfl, E, ce, locs, hx _ hT (X'.ends _).1.alike, hcell9, hv, hcl, (X'.ends _).1, (X'.ends _).2.mono hc hs, hf⟩⟩
  rw [X.pushThrowing_eq]
  exact st
/-- a thing of a world lies in the heap -/
theorem vx_lt {D : va_G} {cl : List vw_C} {ws : va_W} {H1 : Heap} (h : va_P D cl ws H1) {k : Nat} {q : Nat × va_E} (hk : ws[k]? = some q) : q.1 < H1.size := (h k q hk).lt
end VXS
/-! ===== END ===== -/
/-! ===== BEGIN methods with a table of their own: called by a name, returning or throwing ===== -/
section VXH
/-! vx_backW, vx_callVX, vx_callSX, vx_callVW, vx_runVW, vx_runVX, vx_runSX, vx_ofWH follow the same proofs as their sisters above (Free/Laws.lean, Shelf42/LK1.lean); vx_outP calls Shelf42/NT130.lean (outThrough). -/
section
variable {l : Launch} {R : Room} {p : Program} {e : Env} {below : List Frame} {s : State} {sargs : Array Value} {y : MethodName} {len W9 : Nat}
theorem vx_backW {ws : List Cond} {rm : Room} {Pc : Array Value → State → Prop} {Qc : Array Value → State → Outcome → State → Prop} {XC : String → State → State → Prop} {mc ms : Nat} {free : Addr → Prop} {bytes : ByteArray} {maxL : Nat} {ret : Option FieldType} {hh : List (Nat × Nat × Nat × Nat)}
    (hM : vx_Met l y ws rm Pc Qc XC mc ms free) (hblind : FrameBlind Pc) (hrc : rm.cells = mc) (hrs : rm.slots = ms)
    (hframes : rm.frames + 1 ≤ R.frames) (hlocals : W9 + (maxL + 11) + rm.locals ≤ R.locals)
    (hws : ∀ w ∈ ws, ∀ a' U, s.WarmedH U.vm → w.before a' U = true) (hcode : Cond.codeWith y bytes maxL ret hh ∈ ws) (hinit : ∀ a' U, s.WarmedH U.vm → (Cond.initialized y.cls).before a' U = true) :
    vx_Back l R p e below s sargs y len W9 (PreOf R mc ms Pc) (PostOf Qc mc ms free) (vx_Post XC mc ms free) := by
  intro m meth c A g ig mk a X hg hsize hdg hW hn hp
  have h1 : (headSpec ws rm).pre.before a A.U = true := atoms_intro fun w hw => hws w hw _ _ X.warmed
  have h2 : (Cond.codeWith y bytes maxL ret hh).before a A.U = true := hws _ hcode _ _ X.warmed
  have h3 : (Cond.initialized y.cls).before a A.U = true := hinit _ _ X.warmed
  have h4 : A.cells + (headSpec ws rm).room.cells ≤ R.cells := by rw [show (headSpec ws rm).room.cells = mc from hrc]; exact hp.1
  have h5 : A.slots + (headSpec ws rm).room.slots ≤ R.slots := by rw [show (headSpec ws rm).room.slots = ms from hrs]; exact hp.2.1
  have hPc : Pc a (A.U.calling g mk a) := hblind _ _ _ _ hp.2.2
  obtain ⟨U, Ls, c0, s0⟩ := A
  dsimp only [Pt.U, Pt.locs, Pt.cells, Pt.slots] at h1 h2 h3 h4 h5 X hn hPc ⊢
  obtain ⟨m9, methY, cY, hn9, hmY, hcY, -, hlY, -⟩ := Cond.codeWith_spec h2
  cases Option.some.inj (hn9.symm.trans hn)
  obtain ⟨kY, hkY, -⟩ := className_of_methodNamed hn
  have hinitY : kY.init = .initialized := Cond.initialized_spec (findClass_of_methodNamed hn) hkY h3
  have h : At U g.method c below := by rw [hg]; exact X.here
  have hlocals9 : W9 + (maxL + 11) + (headSpec ws rm).room.locals ≤ R.locals := hlocals
  have happ : (headSpec ws rm).appliesLoose y e.platform (U.calling g mk a) = true :=
    Spec.appliesLoose_calling (g := g) h hdg hn hkY hinitY
      (X.room_calling (g := g) (R' := (headSpec ws rm).room) hsize hmY hcY hframes (by rw [hlY]; omega) h4 h5) h1
  obtain ⟨mid, hmid⟩ := h.above
  have hfr : (U.setTop g).frames = (.java g :: mid) ++ below := by rw [State.frames_setTop' g h.top, hmid]; rfl
  obtain ⟨o, s₂, hsteps, -, hend, hq⟩ := Steps.callFree hM p X.admits X.cas X.clock (acts := []) hfr happ hPc trivial
  have hq' : vx_Q Qc XC mc ms free a (U.calling g mk a) o s₂ := hq
  rw [State.frames_setTop' g h.top] at hend
  obtain ⟨g₀, hg0⟩ := Option.isSome_iff_exists.mp h.top
  obtain ⟨r, hr⟩ := State.topJava?_eq_some.mp hg0
  have hr' : (({ U with heap := s₂.heap, slotsUsed := s₂.slotsUsed } : State).setVm s₂.vm).frames = .java g₀ :: r := hr
  rcases hq' with ⟨hqc, L, hfe, hL⟩ | ⟨q, rfl, E, ce, L, hx, hce, hcv, hcl, hW₂, hsm, hL⟩
  · obtain ⟨⟨v, rfl⟩, hW₂, e2, q2, q3, q4, q5, q6⟩ := id hfe
    have e3 : s₂ = ({ (U.calling g mk a).setFrames s₂.frames with heap := s₂.heap, slotsUsed := s₂.slotsUsed } : State).setVm s₂.vm := by
      have : s₂ = ({ s₂ with vm := (U.calling g mk a).vm } : State).setVm s₂.vm := rfl
      rw [e2] at this
      exact this
    obtain ⟨c₂, i₂, len₂, hc₂, hd₂, hf₂⟩ := hend
    have hW' : U.WarmedH s₂.vm := hW₂
    have hcc : c₂ = c := by
      have h1 : s₂.code? g.method = U.code? g.method := by
        rw [State.code?_eq, State.code?_eq, hW'.alike.method?]
      exact Option.some.inj (hc₂.symm.trans (h1.trans h.code))
    subst hcc
    have hlen : len₂ = len := by rw [hdg] at hd₂; cases hd₂; rfl
    subst hlen
    have hs₂ : s₂ = (({ U with heap := s₂.heap, slotsUsed := s₂.slotsUsed } : State).setVm s₂.vm).setTop { g with pc := g.pc + len₂, stack := v.toList ++ g.stack } := by
      refine e3.trans ?_
      rw [hf₂, State.calling_eq h.top, State.setFrames_setFrames, State.setTop_of_frames _ hr', hr]
      rfl
    have hsame : U.sameButNew ({ U with heap := s₂.heap, slotsUsed := s₂.slotsUsed } : State) L mc ms := by
      refine ⟨?_, q2, q3, q4, q5, q6⟩
      obtain ⟨t, ht, -⟩ := State.frames_cons hr
      show ({ U with heap := s₂.heap, slotsUsed := s₂.slotsUsed } : State) = { U.setFrames U.frames with heap := s₂.heap, slotsUsed := s₂.slotsUsed }
      rw [State.setFrames_self ht]
    subst hg
    refine Or.inl ⟨v, ⟨(({ U with heap := s₂.heap, slotsUsed := s₂.slotsUsed } : State).setVm s₂.vm), Ls ++ L, c0 + mc, s0 + ms⟩,
      ⟨X.admits, X.cas, X.clock, X.frames, X.room, X.hears, X.method, X.code, (X.here.setHeapUsed s₂.heap s₂.slotsUsed).setVm hW'.alike, X.tail, State.WarmedH.trans X.warmed hW', X.limits, X.bytes, X.same.trans (hsame.setVm s.vm)⟩,
      ⟨g, mk, s₂, L, rfl, rfl, hqc, rfl, hL, rfl, rfl⟩, ?_⟩
    show Steps p.tables e below _ ((({ U with heap := s₂.heap, slotsUsed := s₂.slotsUsed } : State).setVm s₂.vm).setTop { g with pc := g.pc + len₂, stack := v.toList ++ g.stack })
    rw [← hs₂]
    exact hsteps
  · obtain ⟨e2, q2, q3, q4, q5, q6⟩ := id hsm
    have e3 : s₂ = ({ (U.calling g mk a).setFrames s₂.frames with heap := s₂.heap, slotsUsed := s₂.slotsUsed } : State).setVm s₂.vm := by
      have : s₂ = ({ s₂ with vm := (U.calling g mk a).vm } : State).setVm s₂.vm := rfl
      rw [e2] at this
      exact this
    have hf₂ : s₂.frames = .throwing q :: .java g :: U.frames.tail := hend
    have hW' : U.WarmedH s₂.vm := hW₂
    have hs₂ : s₂ = ((({ U with heap := s₂.heap, slotsUsed := s₂.slotsUsed } : State).setVm s₂.vm).setTop g).pushFrame (.throwing q) := by
      refine e3.trans ?_
      rw [hf₂, State.calling_eq h.top, State.setFrames_setFrames, State.pushFrame, State.frames_setTop _ hr', State.setTop_of_frames _ hr', State.setFrames_setFrames, hr]
      rfl
    have hsame : U.sameButNew ({ U with heap := s₂.heap, slotsUsed := s₂.slotsUsed } : State) L mc ms := by
      refine ⟨?_, q2, q3, q4, q5, q6⟩
      obtain ⟨t, ht, -⟩ := State.frames_cons hr
      show ({ U with heap := s₂.heap, slotsUsed := s₂.slotsUsed } : State) = { U.setFrames U.frames with heap := s₂.heap, slotsUsed := s₂.slotsUsed }
      rw [State.setFrames_self ht]
    subst hg
    refine Or.inr ⟨q, ⟨(({ U with heap := s₂.heap, slotsUsed := s₂.slotsUsed } : State).setVm s₂.vm), Ls ++ L, c0 + mc, s0 + ms⟩,
      ⟨X.admits, X.cas, X.clock, X.frames, X.room, X.hears, X.method, X.code, (X.here.setHeapUsed s₂.heap s₂.slotsUsed).setVm hW'.alike, X.tail, State.WarmedH.trans X.warmed hW', X.limits, X.bytes, X.same.trans (hsame.setVm s.vm)⟩,
      ⟨g, mk, s₂, L, E, ce, rfl, rfl, hx, hce, hcv, hcl, rfl, hL, rfl, rfl⟩, ?_⟩
    show Steps p.tables e below _ (((({ U with heap := s₂.heap, slotsUsed := s₂.slotsUsed } : State).setVm s₂.vm).setTop g).pushFrame (.throwing q))
    rw [← hs₂]
    exact hsteps
end
variable {p : Program} {l : Launch} {e : Env} {R : Room} {s : State} {m : MethodId} {args : Array Value} {below : List Frame} {meth : Method} {c : Code} {T : State} {H : Heap} {locs : List Loc} {cells slots : Nat}
theorem vx_callVX (X : Stand p l e R s m args below meth c T locs cells slots) (hexec : p.tables.exec = Jvm.exec) {own C : String} {index : Nat} {y : MethodName} {bytes : ByteArray} {maxL : Nat} {ret : Option FieldType} {hh : List (Nat × Nat × Nat × Nat)}
    (hown : s.vm.findClass own = some m.cls) (hlink : (Cond.methodLink own index y).before args s = true) (hinst : (Cond.instanceMethod y).before args s = true) (hsel : (Cond.selects C y y).before args s = true)
    (hcode : (Cond.codeWith y bytes maxL ret hh).before args s = true) (hy : y.cls ≠ "java/lang/invoke/MethodHandle" ∧ y.cls ≠ "java/lang/invoke/VarHandle")
    {W9 : Nat} {Pre : Pt → Array Value → Prop} {Post : Pt → Array Value → Option Value → Pt → Prop} {PostX : Pt → Array Value → Addr → Pt → Prop} (hK : vx_Back l R p e below s args y 3 W9 Pre Post PostX)
    {b : Addr} {cellB : Cell} (hcell : T.heap[b]? = some cellB) (hobj : cellB.vm.isStatics = false) (hcls : s.vm.findClass C = some cellB.cls)
    {g : JFrame} (hg : g.method = m) (hsize : g.locals.size = c.maxLocals) {argsL rest : List Value} (hlen : ∀ sig, parseMethodDescriptor y.desc = some sig → argsL.length = sig.parameters.length)
    (hstack : g.stack = argsL.reverse ++ .ref b :: rest) (hW : 2 * g.monitorRoom + (rest.map fun v => v.category).sum ≤ W9) (hdg : decode c.code g.pc = .ok (.invokevirtual index, 3))
    (hpre : ∀ vm₁, s.WarmedH vm₁ → Pre ⟨T.setVm vm₁, locs, cells, slots⟩ (Value.ref b :: argsL).toArray) :
    (∃ (v : Option Value) (vm₁ : Vm) (B : Pt), s.WarmedH vm₁ ∧ Stand p l e R s m args below meth c B.U B.locs B.cells B.slots ∧ Post ⟨T.setVm vm₁, locs, cells, slots⟩ (Value.ref b :: argsL).toArray v B ∧
      ∀ target, Steps p.tables e below (B.U.setTop { g with pc := g.pc + 3, stack := v.toList ++ rest }) target → Steps p.tables e below (T.setTop g) target) ∨
    (∃ (q : Addr) (vm₁ : Vm) (B : Pt), s.WarmedH vm₁ ∧ Stand p l e R s m args below meth c B.U B.locs B.cells B.slots ∧ PostX ⟨T.setVm vm₁, locs, cells, slots⟩ (Value.ref b :: argsL).toArray q B ∧
      Steps p.tables e below (T.setTop g) ((B.U.setTop { g with stack := rest }).pushFrame (.throwing q))) := by
  obtain ⟨mk, methM, hnamed, hmethM, hstM, habM⟩ := Cond.instanceMethod_spec hinst
  obtain ⟨m8, methM', cM, hn8, hmethM', -, -, -, -, -, -, hsigM⟩ := Cond.codeWith_spec hcode
  cases Option.some.inj (hn8.symm.trans hnamed)
  cases hmethM.symm.trans hmethM'
  obtain ⟨c2, r2, m2, q1, q2, q3, q4, kP, hkP, hkPi⟩ := Cond.selects_spec hsel
  cases hcls.symm.trans q1
  cases (State.methodFound?_of_named hnamed hy).symm.trans q2
  cases hnamed.symm.trans q3
  have hselP : selectMethod e.platform s.vm cellB.cls mk = .method mk := by rw [Launch.admits_selectMethod X.admits]; exact q4
  obtain ⟨vm₁, X₁, hstep₁⟩ := X.invokevirtual hexec hown hlink hnamed hmethM hstM hkP hkPi hy (a := b) (cell := cellB) hcell
    (fun z h => by rw [h] at hobj; cases hobj) hselP hmethM habM hkP hkPi (g := g) hg (argsL := argsL) (rest := rest) (hlen _ hsigM) hstack hdg
  rcases hK m meth c ⟨T.setVm vm₁, locs, cells, slots⟩ { g with stack := rest } (.invokevirtual index) mk (Value.ref b :: argsL).toArray X₁ hg hsize hdg hW (X₁.named hnamed) (hpre vm₁ X₁.warmed) with ⟨v, B, X', hpost, hsteps⟩ | ⟨q, B, X', hpost, hsteps⟩
  · exact Or.inl ⟨v, vm₁, B, X₁.warmed, X', hpost, fun target h => hstep₁ _ fun acts => by rw [doInvoke_state]; exact hsteps.trans h⟩
  · exact Or.inr ⟨q, vm₁, B, X₁.warmed, X', hpost, hstep₁ _ fun acts => by rw [doInvoke_state]; exact hsteps⟩
theorem vx_callSX (X : Stand p l e R s m args below meth c T locs cells slots) (hexec : p.tables.exec = Jvm.exec) {own : String} {index : Nat} {y : MethodName} {bytes : ByteArray} {maxL : Nat} {ret : Option FieldType} {hh : List (Nat × Nat × Nat × Nat)}
    (hown : s.vm.findClass own = some m.cls) (hlink : (Cond.methodLink own index y).before args s = true) (hstat : (Cond.static y).before args s = true) (hinit : (Cond.initialized y.cls).before args s = true)
    (hcode : (Cond.codeWith y bytes maxL ret hh).before args s = true) (hy : y.cls ≠ "java/lang/invoke/MethodHandle" ∧ y.cls ≠ "java/lang/invoke/VarHandle")
    {W9 : Nat} {Pre : Pt → Array Value → Prop} {Post : Pt → Array Value → Option Value → Pt → Prop} {PostX : Pt → Array Value → Addr → Pt → Prop} (hK : vx_Back l R p e below s args y 3 W9 Pre Post PostX)
    {g : JFrame} (hg : g.method = m) (hsize : g.locals.size = c.maxLocals) {argsL rest : List Value} (hlen : ∀ sig, parseMethodDescriptor y.desc = some sig → argsL.length = sig.parameters.length)
    (hstack : g.stack = argsL.reverse ++ rest) (hW : 2 * g.monitorRoom + (rest.map fun v => v.category).sum ≤ W9) (hdg : decode c.code g.pc = .ok (.invokestatic index, 3))
    (hpre : ∀ vm₁, s.WarmedH vm₁ → Pre ⟨T.setVm vm₁, locs, cells, slots⟩ argsL.toArray) :
    (∃ (v : Option Value) (vm₁ : Vm) (B : Pt), s.WarmedH vm₁ ∧ Stand p l e R s m args below meth c B.U B.locs B.cells B.slots ∧ Post ⟨T.setVm vm₁, locs, cells, slots⟩ argsL.toArray v B ∧
      ∀ target, Steps p.tables e below (B.U.setTop { g with pc := g.pc + 3, stack := v.toList ++ rest }) target → Steps p.tables e below (T.setTop g) target) ∨
    (∃ (q : Addr) (vm₁ : Vm) (B : Pt), s.WarmedH vm₁ ∧ Stand p l e R s m args below meth c B.U B.locs B.cells B.slots ∧ PostX ⟨T.setVm vm₁, locs, cells, slots⟩ argsL.toArray q B ∧
      Steps p.tables e below (T.setTop g) ((B.U.setTop { g with stack := rest }).pushFrame (.throwing q))) := by
  obtain ⟨mk, methM, cM, hnamed, hmethM, -, -, -, -, -, -, hsigM⟩ := Cond.codeWith_spec hcode
  have hstatic : methM.isStatic = true := Cond.static_spec hnamed hmethM hstat
  obtain ⟨kP, hkP, -⟩ := className_of_methodNamed hnamed
  have hinitP : kP.init = .initialized := Cond.initialized_spec (findClass_of_methodNamed hnamed) hkP hinit
  obtain ⟨vm₁, X₁, hstep₁⟩ := X.invokestatic hexec hown hlink hnamed hmethM hstatic hkP hinitP hy (g := g) hg (argsL := argsL) (rest := rest) (hlen _ hsigM) hstack hdg
  rcases hK m meth c ⟨T.setVm vm₁, locs, cells, slots⟩ { g with stack := rest } (.invokestatic index) mk argsL.toArray X₁ hg hsize hdg hW (X₁.named hnamed) (hpre vm₁ X₁.warmed) with ⟨v, B, X', hpost, hsteps⟩ | ⟨q, B, X', hpost, hsteps⟩
  · exact Or.inl ⟨v, vm₁, B, X₁.warmed, X', hpost, fun target h => hstep₁ _ fun acts => by rw [doInvoke_state]; exact hsteps.trans h⟩
  · exact Or.inr ⟨q, vm₁, B, X₁.warmed, X', hpost, hstep₁ _ fun acts => by rw [doInvoke_state]; exact hsteps⟩
theorem vx_callVW (X : Stand p l e R s m args below meth c T locs cells slots) (hexec : p.tables.exec = Jvm.exec) {own C : String} {index : Nat} {y : MethodName} {bytes : ByteArray} {maxL : Nat} {ret : Option FieldType} {hh : List (Nat × Nat × Nat × Nat)}
    (hown : s.vm.findClass own = some m.cls) (hlink : (Cond.methodLink own index y).before args s = true) (hinst : (Cond.instanceMethod y).before args s = true) (hsel : (Cond.selects C y y).before args s = true)
    (hcode : (Cond.codeWith y bytes maxL ret hh).before args s = true) (hy : y.cls ≠ "java/lang/invoke/MethodHandle" ∧ y.cls ≠ "java/lang/invoke/VarHandle")
    {W9 : Nat} {Pre : Pt → Array Value → Prop} {Post : Pt → Array Value → Option Value → Pt → Prop} (hK : Back l R p e below s args y 3 W9 Pre Post)
    {b : Addr} {cellB : Cell} (hcell : T.heap[b]? = some cellB) (hobj : cellB.vm.isStatics = false) (hcls : s.vm.findClass C = some cellB.cls)
    {g : JFrame} (hg : g.method = m) (hsize : g.locals.size = c.maxLocals) {argsL rest : List Value} (hlen : ∀ sig, parseMethodDescriptor y.desc = some sig → argsL.length = sig.parameters.length)
    (hstack : g.stack = argsL.reverse ++ .ref b :: rest) (hW : 2 * g.monitorRoom + (rest.map fun v => v.category).sum ≤ W9) (hdg : decode c.code g.pc = .ok (.invokevirtual index, 3))
    (hpre : ∀ vm₁, s.WarmedH vm₁ → Pre ⟨T.setVm vm₁, locs, cells, slots⟩ (Value.ref b :: argsL).toArray) :
    ∃ (v : Option Value) (vm₁ : Vm) (B : Pt), s.WarmedH vm₁ ∧ Stand p l e R s m args below meth c B.U B.locs B.cells B.slots ∧ Post ⟨T.setVm vm₁, locs, cells, slots⟩ (Value.ref b :: argsL).toArray v B ∧
      ∀ target, Steps p.tables e below (B.U.setTop { g with pc := g.pc + 3, stack := v.toList ++ rest }) target → Steps p.tables e below (T.setTop g) target := by
  obtain ⟨mk, methM, hnamed, hmethM, hstM, habM⟩ := Cond.instanceMethod_spec hinst
  obtain ⟨m8, methM', cM, hn8, hmethM', -, -, -, -, -, -, hsigM⟩ := Cond.codeWith_spec hcode
  cases Option.some.inj (hn8.symm.trans hnamed)
  cases hmethM.symm.trans hmethM'
  obtain ⟨c2, r2, m2, q1, q2, q3, q4, kP, hkP, hkPi⟩ := Cond.selects_spec hsel
  cases hcls.symm.trans q1
  cases (State.methodFound?_of_named hnamed hy).symm.trans q2
  cases hnamed.symm.trans q3
  have hselP : selectMethod e.platform s.vm cellB.cls mk = .method mk := by rw [Launch.admits_selectMethod X.admits]; exact q4
  obtain ⟨vm₁, X₁, hstep₁⟩ := X.invokevirtual hexec hown hlink hnamed hmethM hstM hkP hkPi hy (a := b) (cell := cellB) hcell
    (fun z h => by rw [h] at hobj; cases hobj) hselP hmethM habM hkP hkPi (g := g) hg (argsL := argsL) (rest := rest) (hlen _ hsigM) hstack hdg
  obtain ⟨v, B, X', hpost, hsteps⟩ := hK m meth c ⟨T.setVm vm₁, locs, cells, slots⟩ { g with stack := rest } (.invokevirtual index) mk (Value.ref b :: argsL).toArray X₁ hg hsize hdg hW (X₁.named hnamed) (hpre vm₁ X₁.warmed)
  exact ⟨v, vm₁, B, X₁.warmed, X', hpost, fun target h => hstep₁ _ fun acts => by rw [doInvoke_state]; exact hsteps.trans h⟩
abbrev vx_CVW (R : Room) (s : State) (args : Array Value) (own C : String) (index : Nat) (y : MethodName) (bytes : ByteArray) (maxL : Nat) (ret : Option FieldType) (hh : List (Nat × Nat × Nat × Nat)) (ws : List Cond) (rm : Room) (mc ms n : Nat) : Prop :=
  (rm.cells = mc ∧ rm.slots = ms ∧ rm.frames + 1 ≤ R.frames ∧ 8 + (maxL + 11) + rm.locals ≤ R.locals ∧ (∀ w ∈ ws, ∀ (a' : Array Value) (U : State), s.WarmedH U.vm → w.before a' U = true) ∧ Cond.codeWith y bytes maxL ret hh ∈ ws) ∧
  (Cond.codeWith y bytes maxL ret hh).before args s = true ∧ (Cond.initialized y.cls).before args s = true ∧ (y.cls ≠ "java/lang/invoke/MethodHandle" ∧ y.cls ≠ "java/lang/invoke/VarHandle") ∧
  (∀ sig, parseMethodDescriptor y.desc = some sig → n = sig.parameters.length) ∧ (Cond.methodLink own index y).before args s = true ∧ (Cond.instanceMethod y).before args s = true ∧ (Cond.selects C y y).before args s = true
theorem vx_cwVW {own C : String} {index maxL mc ms : Nat} {y : MethodName} {bytes : ByteArray} {ret : Option FieldType} {hh : List (Nat × Nat × Nat × Nat)} {Ts ws ws' : List Cond} {rm : Room} (n : Nat) (ht : ∀ w ∈ Ts, w.before args s = true) (hT : GoodIn Ts (wsV own index C y ws)) (hw : ws = Cond.codeWith y bytes maxL ret hh :: ws') (hrc : rm.cells = mc) (hrs : rm.slots = ms)
    (hd : y.cls = C ∧ y.cls ≠ "java/lang/invoke/MethodHandle" ∧ y.cls ≠ "java/lang/invoke/VarHandle" ∧ (parseMethodDescriptor y.desc).map (fun d => d.parameters.length) = some n) (hR : rm.frames + 1 ≤ R.frames ∧ 8 + (maxL + 11) + rm.locals ≤ R.locals) :
    vx_CVW R s args own C index y bytes maxL ret hh ws rm mc ms n := by
  obtain ⟨hC, hd⟩ := hd
  subst hC
  have ok : ∀ w ∈ wsV own index y.cls y ws, w.before args s = true := fun w h => ht w (hT w h).1
  have hG : GoodIn Ts ws := fun w h => hT w (by unfold wsV; exact List.mem_append_right _ h)
  have hc : Cond.codeWith y bytes maxL ret hh ∈ ws := by rw [hw]; exact List.mem_cons_self
  refine ⟨⟨hrc, hrs, hR.1, hR.2, pay_in ht hG, hc⟩, ht _ (hG _ hc).1, ok _ (by simp [wsV]), ⟨hd.1, hd.2.1⟩, fun sig h => ?_, ok _ (by simp [wsV]), ok _ (by simp [wsV]), ok _ (by simp [wsV])⟩
  have h2 := hd.2.2
  rw [h] at h2
  exact (Option.some.inj h2).symm
theorem vx_runVW {y : MethodName} {bytes cc : ByteArray} {maxL nL mc ms n index : Nat} {ret : Option FieldType} {hh : List (Nat × Nat × Nat × Nat)} {ws : List Cond} {rm : Room} {Pc : Array Value → State → Prop} {Qc : Array Value → State → Outcome → State → Prop} {free : Addr → Prop} {Ts : List Cond} {own C : String} {b : Addr} {As rest : List Value} {g : JFrame}
    (S : CallFix p m c cc nL s args Ts own) (hM : Met l y ws rm Pc Qc mc ms free) (cw : vx_CVW R s args own C index y bytes maxL ret hh ws rm mc ms n) (hp : PreV s H C b Pc As)
    (hg : g.method = m) (hn : As.length = n) (hsize : g.locals.size = nL) (hstack : g.stack = As.reverse ++ .ref b :: rest) (hW : 2 * g.monitorRoom + (rest.map fun v => v.category).sum ≤ 8) (hdg : decode cc g.pc = .ok (.invokevirtual index, 3)) (hf : cells + mc ≤ R.cells ∧ slots + ms ≤ R.slots) :
    va_Run p l e R s m args below meth c H locs cells slots mc ms g rest (Qc (Value.ref b :: As).toArray) free := by
  obtain ⟨⟨hrc, hrs, hfr, hlo, hws, hcw⟩, hcode, hini, hy, hlen, hl, hin, hse⟩ := cw
  have hK : Back l R p e below s args y 3 8 (PreOf R mc ms Pc) (PostOf Qc mc ms free) := va_backW (hh := hh) (bytes := bytes) (maxL := maxL) (ret := ret) hM hp.1 hrc hrs hfr hlo hws hcw (fun a' U hW => word_at hW (Or.inl (by first | rfl | simp [Cond.onTables, Cond.keeps, Cond.steady])) hini)
  obtain ⟨hx, hb, hml, ho, -⟩ := S
  obtain ⟨-, ⟨cellB, hcB, hoB, hclB⟩, hPc⟩ := hp
  intro T hT X
  obtain ⟨v, vm₁, ⟨U', l2, c2, s2⟩, hW₁, X', ⟨g', mk, t, L, e1, e2, hq, h1, hL, h2, h3⟩, st⟩ := vx_callVW X hx (C := C) (hh := hh) (bytes := bytes) (maxL := maxL) (ret := ret) ho hl hin hse hcode hy hK (by rw [hT]; exact hcB) hoB hclB hg (hsize.trans hml.symm) (argsL := As) (rest := rest) (fun sig h => hn.trans (hlen sig h)) hstack hW (by rw [hb]; exact hdg)
    (fun vm₁ hW₁ => ⟨hf.1, hf.2, hPc (T.setVm vm₁) hT hW₁⟩)
  dsimp only [Pt.U, Pt.locs, Pt.cells, Pt.slots] at X' e1 e2 h1 h2 h3 st
  subst h1; subst h2; subst h3
  exact ⟨v, (T.setVm vm₁).calling g' mk (Value.ref b :: As).toArray, t, U', L, hT, X', hL, e1, e2, hq, st⟩
section
variable {y : MethodName} {bytes cc : ByteArray} {maxL nL mc ms n index : Nat} {ret : Option FieldType} {ws : List Cond} {rm : Room} {Pc : Array Value → State → Prop} {Qc : Array Value → State → Outcome → State → Prop} {XC : String → State → State → Prop} {free : Addr → Prop} {Ts : List Cond} {own C : String} {b : Addr} {As rest : List Value} {g : JFrame}
theorem vx_runVX {hh : List (Nat × Nat × Nat × Nat)} (S : CallFix p m c cc nL s args Ts own) (hM : vx_Met l y ws rm Pc Qc XC mc ms free) (cw : vx_CVW R s args own C index y bytes maxL ret hh ws rm mc ms n) (hp : PreV s H C b Pc As)
    (hg : g.method = m) (hn : As.length = n) (hsize : g.locals.size = nL) (hstack : g.stack = As.reverse ++ .ref b :: rest) (hW : 2 * g.monitorRoom + (rest.map fun v => v.category).sum ≤ 8) (hdg : decode cc g.pc = .ok (.invokevirtual index, 3)) (hf : cells + mc ≤ R.cells ∧ slots + ms ≤ R.slots) :
    vx_Run p l e R s m args below meth c H locs cells slots mc ms g rest (Qc (Value.ref b :: As).toArray) XC free := by
  obtain ⟨⟨hrc, hrs, hfr, hlo, hws, hcw⟩, hcode, hini, hy, hlen, hl, hin, hse⟩ := cw
  have hK : vx_Back l R p e below s args y 3 8 (PreOf R mc ms Pc) (PostOf Qc mc ms free) (vx_Post XC mc ms free) := vx_backW (hh := hh) (bytes := bytes) (maxL := maxL) (ret := ret) hM hp.1 hrc hrs hfr hlo hws hcw (fun a' U hW => word_at hW (Or.inl (by first | rfl | simp [Cond.onTables, Cond.keeps, Cond.steady])) hini)
  obtain ⟨hx, hb, hml, ho, -⟩ := S
  obtain ⟨-, ⟨cellB, hcB, hoB, hclB⟩, hPc⟩ := hp
  intro T hT X
  rcases vx_callVX X hx (C := C) (hh := hh) (bytes := bytes) (maxL := maxL) (ret := ret) ho hl hin hse hcode hy hK (by rw [hT]; exact hcB) hoB hclB hg (hsize.trans hml.symm) (argsL := As) (rest := rest) (fun sig h => hn.trans (hlen sig h)) hstack hW (by rw [hb]; exact hdg)
    (fun vm₁ hW₁ => ⟨hf.1, hf.2, hPc (T.setVm vm₁) hT hW₁⟩) with ⟨v, vm₁, ⟨U', l2, c2, s2⟩, hW₁, X', ⟨g', mk, t, L, e1, e2, hq, h1, hL, h2, h3⟩, st⟩ | ⟨q, vm₁, ⟨U', l2, c2, s2⟩, hW₁, X', ⟨g', mk, t, L, E, ce, e1, e2, hq, hce, hcv, hcl, h1, hL, h2, h3⟩, st⟩
  · dsimp only [Pt.U, Pt.locs, Pt.cells, Pt.slots] at X' e1 e2 h1 h2 h3 st
    subst h1; subst h2; subst h3
    exact Or.inl ⟨v, (T.setVm vm₁).calling g' mk (Value.ref b :: As).toArray, t, U', L, hT, X', hL, e1, e2, hq, st⟩
  · dsimp only [Pt.U, Pt.locs, Pt.cells, Pt.slots] at X' e1 e2 h1 h2 h3 st hcl
    subst h1; subst h2; subst h3
    exact Or.inr ⟨q, (T.setVm vm₁).calling g' mk (Value.ref b :: As).toArray, t, U', L, E, ce, hT, X', hL, e1, e2, hq, hce, hcv, vx_cls hW₁ hcl, st⟩
theorem vx_runSX {hh : List (Nat × Nat × Nat × Nat)} (S : CallFix p m c cc nL s args Ts own) (hM : vx_Met l y ws rm Pc Qc XC mc ms free) (cw : vx_CSW R s args own index y bytes maxL ret hh ws rm mc ms n) (hp : PreS s H Pc As)
    (hg : g.method = m) (hn : As.length = n) (hsize : g.locals.size = nL) (hstack : g.stack = As.reverse ++ rest) (hW : 2 * g.monitorRoom + (rest.map fun v => v.category).sum ≤ 8) (hdg : decode cc g.pc = .ok (.invokestatic index, 3)) (hf : cells + mc ≤ R.cells ∧ slots + ms ≤ R.slots) :
    vx_Run p l e R s m args below meth c H locs cells slots mc ms g rest (Qc As.toArray) XC free := by
  obtain ⟨⟨hrc, hrs, hfr, hlo, hws, hcw⟩, hcode, hini, hy, hlen, hl, hstt⟩ := cw
  have hK : vx_Back l R p e below s args y 3 8 (PreOf R mc ms Pc) (PostOf Qc mc ms free) (vx_Post XC mc ms free) := vx_backW (hh := hh) (bytes := bytes) (maxL := maxL) (ret := ret) hM hp.1 hrc hrs hfr hlo hws hcw (fun a' U hW => word_at hW (Or.inl (by first | rfl | simp [Cond.onTables, Cond.keeps, Cond.steady])) hini)
  obtain ⟨hx, hb, hml, ho, -⟩ := S
  intro T hT X
  rcases vx_callSX X hx (hh := hh) (bytes := bytes) (maxL := maxL) (ret := ret) ho hl hstt hini hcode hy hK hg (hsize.trans hml.symm) (argsL := As) (rest := rest) (fun sig h => hn.trans (hlen sig h)) hstack hW (by rw [hb]; exact hdg)
    (fun vm₁ hW₁ => ⟨hf.1, hf.2, hp.2 (T.setVm vm₁) hT hW₁⟩) with ⟨v, vm₁, ⟨U', l2, c2, s2⟩, hW₁, X', ⟨g', mk, t, L, e1, e2, hq, h1, hL, h2, h3⟩, st⟩ | ⟨q, vm₁, ⟨U', l2, c2, s2⟩, hW₁, X', ⟨g', mk, t, L, E, ce, e1, e2, hq, hce, hcv, hcl, h1, hL, h2, h3⟩, st⟩
  · dsimp only [Pt.U, Pt.locs, Pt.cells, Pt.slots] at X' e1 e2 h1 h2 h3 st
    subst h1; subst h2; subst h3
    exact Or.inl ⟨v, (T.setVm vm₁).calling g' mk As.toArray, t, U', L, hT, X', hL, e1, e2, hq, st⟩
  · dsimp only [Pt.U, Pt.locs, Pt.cells, Pt.slots] at X' e1 e2 h1 h2 h3 st hcl
    subst h1; subst h2; subst h3
    exact Or.inr ⟨q, (T.setVm vm₁).calling g' mk As.toArray, t, U', L, E, ce, hT, X', hL, e1, e2, hq, hce, hcv, vx_cls hW₁ hcl, st⟩
end
end VXH
theorem vx_ofWH {l : Launch} {y : MethodName} {ws ws' : List Cond} {rm : Room} {Pc : Array Value → State → Prop} {Qc : Array Value → State → Outcome → State → Prop} {XC : String → State → State → Prop} {mc ms : Nat} {free : Addr → Prop} {cc : ByteArray} {maxL : Nat} {ret : Option FieldType} {hh : List (Nat × Nat × Nat × Nat)}
    (hy : plainName y.cls = true) (hw : ws = Cond.codeWith y cc maxL ret hh :: ws')
    (body : ∀ p e s m args below meth c s₁, BodyLoose p l y (headSpec ws rm) cc maxL ret e s m args below meth c s₁ → c.maxLocals = maxL → Pc args s →
      W p l e (headSpec ws rm).room s m args below meth c s.heap [] 0 0 (vx_MQ below Qc XC args s mc ms free) (entryFrame m args maxL)) : vx_Met l y ws rm Pc Qc XC mc ms free := by
  refine MetFree.of_bodyS (code := cc) (maxLocals := maxL) (ret := ret) hy ?_ ?_
  · intro args s m h hn
    obtain ⟨m9, meth, c, hn9, h1, h2, h3, h4, -, h5, h6, -⟩ := Cond.codeWith_spec (atoms_spec (ws := ws) h _ (by rw [hw]; exact List.mem_cons_self))
    cases hn.symm.trans hn9
    exact ⟨meth, c, h1, h2, h3, h4, h5, h6⟩
  · intro p e s m args below meth c s₁ B hml hP _
    have hh0 : s₁.heap = s.heap := by rw [B.state]; rfl
    obtain ⟨t, a1, o, b1, b2, b3⟩ := body p e s m args below meth c s₁ B hml hP s₁ hh0 (Stand.of_body B)
    exact ⟨t, o, a1, b1, b2, b3⟩
/-! ===== END ===== -/
end
section
def RX0 : String := "BeamOffice$Beamline"
def TX0 : u_T := fun k => match k with
  | 0 => ("BeamOffice$Beamline", "shifts", "I", true)
  | 1 => ("BeamOffice$Beamline", "room", "I", true)
  | 2 => ("BeamOffice$Beamline", "queue", "Ljava/util/ArrayList;", true)
  | 3 => ("BeamOffice$Beamline", "kept", "LBeamOffice$Calendar;", true)
  | 4 => ("BeamOffice$Beamline", "anew", "LBeamOffice$Calendar;", true)
  | 5 => ("BeamOffice$Beamline", "kinds", "[C", true)
  | 6 => ("BeamOffice$Beamline", "passed", "I", false)
  | 7 => ("BeamOffice$Beamline", "rate", "I", false)
  | 8 => ("BeamOffice$Beamline", "used", "I", false)
  | 9 => ("BeamOffice$Beamline", "met", "Z", false)
  | _ => ("BeamOffice$Beamline", "fault", "Z", false)
def tyX0 : Nat → FieldType := fun k => match k with
  | 0 => .int
  | 1 => .int
  | 2 => .object "java/util/ArrayList"
  | 3 => .object "BeamOffice$Calendar"
  | 4 => .object "BeamOffice$Calendar"
  | 5 => .array .char
  | 6 => .int
  | 7 => .int
  | 8 => .int
  | 9 => .boolean
  | _ => .boolean
abbrev wsX00 : List Cond := u_ws RX0 TX0 11
theorem nmX0 : ∀ a, a < 11 → ∀ b, b < 11 → a ≠ b → (TX0 a).2.1 ≠ (TX0 b).2.1 := by decide +kernel
theorem tyX0_ok : ∀ k, k < 11 → parseFieldDescriptor (TX0 k).2.2.1 = some (tyX0 k) := by decide +kernel
abbrev cX0_init : ByteArray := prog_2_method_1_code
def yX0_init : MethodName := ⟨RX0, "<init>", "(II)V"⟩
abbrev cX0_allot : ByteArray := prog_2_method_2_code
def yX0_allot : MethodName := ⟨RX0, "allot", "(LBeamOffice$Proposal;)V"⟩
abbrev cX0_proposalAt : ByteArray := prog_2_method_3_code
def yX0_proposalAt : MethodName := ⟨RX0, "proposalAt", "(I)LBeamOffice$Proposal;"⟩
abbrev cX0_current : ByteArray := prog_2_method_4_code
def yX0_current : MethodName := ⟨RX0, "current", "()LBeamOffice$Proposal;"⟩
abbrev cX0_runShift : ByteArray := prog_2_method_5_code
def yX0_runShift : MethodName := ⟨RX0, "runShift", "(C)V"⟩
abbrev cX0_note : ByteArray := prog_2_method_6_code
def yX0_note : MethodName := ⟨RX0, "note", "(C)V"⟩
abbrev cX0_replay : ByteArray := prog_2_method_7_code
def yX0_replay : MethodName := ⟨RX0, "replay", "()V"⟩
def RX1 : String := "BeamOffice$Calendar"
def TX1 : u_T := fun k => match k with
  | 0 => ("BeamOffice$Calendar", "left", "[I", true)
  | 1 => ("BeamOffice$Calendar", "places", "I", false)
  | _ => ("BeamOffice$Calendar", "reserve", "I", false)
def tyX1 : Nat → FieldType := fun k => match k with
  | 0 => .array .int
  | 1 => .int
  | _ => .int
abbrev wsX10 : List Cond := u_ws RX1 TX1 3
theorem nmX1 : ∀ a, a < 3 → ∀ b, b < 3 → a ≠ b → (TX1 a).2.1 ≠ (TX1 b).2.1 := by decide +kernel
theorem tyX1_ok : ∀ k, k < 3 → parseFieldDescriptor (TX1 k).2.2.1 = some (tyX1 k) := by decide +kernel
abbrev cX1_init : ByteArray := prog_3_method_1_code
def yX1_init : MethodName := ⟨RX1, "<init>", "()V"⟩
abbrev cX1_begin : ByteArray := prog_3_method_2_code
def yX1_begin : MethodName := ⟨RX1, "begin", "(I)V"⟩
abbrev cX1_allot : ByteArray := prog_3_method_3_code
def yX1_allot : MethodName := ⟨RX1, "allot", "(I)I"⟩
abbrev cX1_leftAt : ByteArray := prog_3_method_4_code
def yX1_leftAt : MethodName := ⟨RX1, "leftAt", "(I)I"⟩
abbrev cX1_leftAheadOf : ByteArray := prog_3_method_5_code
def yX1_leftAheadOf : MethodName := ⟨RX1, "leftAheadOf", "(I)I"⟩
abbrev cX1_firstPlace : ByteArray := prog_3_method_6_code
def yX1_firstPlace : MethodName := ⟨RX1, "firstPlace", "()I"⟩
abbrev cX1_lastPlace : ByteArray := prog_3_method_7_code
def yX1_lastPlace : MethodName := ⟨RX1, "lastPlace", "()I"⟩
abbrev cX1_takeFrom : ByteArray := prog_3_method_8_code
def yX1_takeFrom : MethodName := ⟨RX1, "takeFrom", "(I)V"⟩
abbrev cX1_follow : ByteArray := prog_3_method_9_code
def yX1_follow : MethodName := ⟨RX1, "follow", "(C)I"⟩
abbrev cX1_lose : ByteArray := prog_3_method_10_code
def yX1_lose : MethodName := ⟨RX1, "lose", "()I"⟩
def RX2 : String := "BeamOffice$Proposal"
def TX2 : u_T := fun k => match k with
  | 0 => ("BeamOffice$Proposal", "number", "I", true)
  | 1 => ("BeamOffice$Proposal", "line", "LBeamOffice$Beamline;", true)
  | 2 => ("BeamOffice$Proposal", "user", "I", true)
  | 3 => ("BeamOffice$Proposal", "score", "I", true)
  | 4 => ("BeamOffice$Proposal", "wanted", "I", true)
  | 5 => ("BeamOffice$Proposal", "data", "I", true)
  | 6 => ("BeamOffice$Proposal", "queuePlace", "I", false)
  | 7 => ("BeamOffice$Proposal", "sampleLife", "I", false)
  | 8 => ("BeamOffice$Proposal", "samplePlace", "C", false)
  | 9 => ("BeamOffice$Proposal", "done", "I", false)
  | 10 => ("BeamOffice$Proposal", "missed", "I", false)
  | 11 => ("BeamOffice$Proposal", "lost", "I", false)
  | _ => ("BeamOffice$Proposal", "owed", "I", false)
def tyX2 : Nat → FieldType := fun k => match k with
  | 0 => .int
  | 1 => .object "BeamOffice$Beamline"
  | 2 => .int
  | 3 => .int
  | 4 => .int
  | 5 => .int
  | 6 => .int
  | 7 => .int
  | 8 => .char
  | 9 => .int
  | 10 => .int
  | 11 => .int
  | _ => .int
abbrev wsX20 : List Cond := u_ws RX2 TX2 13
theorem nmX2 : ∀ a, a < 13 → ∀ b, b < 13 → a ≠ b → (TX2 a).2.1 ≠ (TX2 b).2.1 := by decide +kernel
theorem tyX2_ok : ∀ k, k < 13 → parseFieldDescriptor (TX2 k).2.2.1 = some (tyX2 k) := by decide +kernel
abbrev cX2_init : ByteArray := prog_4_method_1_code
def yX2_init : MethodName := ⟨RX2, "<init>", "(ILBeamOffice$Beamline;IIII)V"⟩
abbrev cX2_hasSample : ByteArray := prog_4_method_2_code
def yX2_hasSample : MethodName := ⟨RX2, "hasSample", "()Z"⟩
abbrev cX2_isCold : ByteArray := prog_4_method_3_code
def yX2_isCold : MethodName := ⟨RX2, "isCold", "()Z"⟩
abbrev cX2_hasGoodSampleAtBeamline : ByteArray := prog_4_method_4_code
def yX2_hasGoodSampleAtBeamline : MethodName := ⟨RX2, "hasGoodSampleAtBeamline", "()Z"⟩
abbrev cX2_ageSample : ByteArray := prog_4_method_5_code
def yX2_ageSample : MethodName := ⟨RX2, "ageSample", "()V"⟩
abbrev cX2_countShift : ByteArray := prog_4_method_6_code
def yX2_countShift : MethodName := ⟨RX2, "countShift", "(C)V"⟩
def RX3 : String := "BeamOffice"
def TX3 : u_T := fun k => match k with
  | 0 => ("BeamOffice", "beamlines", "Ljava/util/ArrayList;", true)
  | 1 => ("BeamOffice", "proposals", "Ljava/util/ArrayList;", true)
  | 2 => ("BeamOffice", "trained", "[Z", true)
  | 3 => ("BeamOffice", "there", "[Z", true)
  | _ => ("BeamOffice", "time", "I", false)
def tyX3 : Nat → FieldType := fun k => match k with
  | 0 => .object "java/util/ArrayList"
  | 1 => .object "java/util/ArrayList"
  | 2 => .array .boolean
  | 3 => .array .boolean
  | _ => .int
abbrev wsX30 : List Cond := u_ws RX3 TX3 5
theorem nmX3 : ∀ a, a < 5 → ∀ b, b < 5 → a ≠ b → (TX3 a).2.1 ≠ (TX3 b).2.1 := by decide +kernel
theorem tyX3_ok : ∀ k, k < 5 → parseFieldDescriptor (TX3 k).2.2.1 = some (tyX3 k) := by decide +kernel
abbrev cX3_init : ByteArray := prog_1_method_1_code
def yX3_init : MethodName := ⟨RX3, "<init>", "()V"⟩
abbrev cX3_addBeamline : ByteArray := prog_1_method_2_code
def yX3_addBeamline : MethodName := ⟨RX3, "addBeamline", "(II)I"⟩
abbrev cX3_setRate : ByteArray := prog_1_method_3_code
def yX3_setRate : MethodName := ⟨RX3, "setRate", "(II)I"⟩
abbrev cX3_propose : ByteArray := prog_1_method_4_code
def yX3_propose : MethodName := ⟨RX3, "propose", "(IIIII)I"⟩
abbrev cX3_meet : ByteArray := prog_1_method_5_code
def yX3_meet : MethodName := ⟨RX3, "meet", "(I)I"⟩
abbrev cX3_reserve : ByteArray := prog_1_method_6_code
def yX3_reserve : MethodName := ⟨RX3, "reserve", "(I)I"⟩
abbrev cX3_train : ByteArray := prog_1_method_7_code
def yX3_train : MethodName := ⟨RX3, "train", "(I)I"⟩
abbrev cX3_setThere : ByteArray := prog_1_method_8_code
def yX3_setThere : MethodName := ⟨RX3, "setThere", "(IZ)Z"⟩
abbrev cX3_bring : ByteArray := prog_1_method_9_code
def yX3_bring : MethodName := ⟨RX3, "bring", "(II)I"⟩
abbrev cX3_put : ByteArray := prog_1_method_10_code
def yX3_put : MethodName := ⟨RX3, "put", "(IC)C"⟩
abbrev cX3_life : ByteArray := prog_1_method_11_code
def yX3_life : MethodName := ⟨RX3, "life", "(I)I"⟩
abbrev cX3_on : ByteArray := prog_1_method_12_code
def yX3_on : MethodName := ⟨RX3, "on", "(I)I"⟩
abbrev cX3_reason : ByteArray := prog_1_method_13_code
def yX3_reason : MethodName := ⟨RX3, "reason", "(I)C"⟩
abbrev cX3_fail : ByteArray := prog_1_method_14_code
def yX3_fail : MethodName := ⟨RX3, "fail", "(I)Z"⟩
abbrev cX3_pass : ByteArray := prog_1_method_15_code
def yX3_pass : MethodName := ⟨RX3, "pass", "(I)I"⟩
abbrev cX3_time : ByteArray := prog_1_method_16_code
def yX3_time : MethodName := ⟨RX3, "time", "()I"⟩
abbrev cX3_left : ByteArray := prog_1_method_18_code
def yX3_left : MethodName := ⟨RX3, "left", "(I)I"⟩
abbrev cX3_leftAnew : ByteArray := prog_1_method_19_code
def yX3_leftAnew : MethodName := ⟨RX3, "leftAnew", "(I)I"⟩
abbrev cX3_nextAt : ByteArray := prog_1_method_20_code
def yX3_nextAt : MethodName := ⟨RX3, "nextAt", "(I)I"⟩
abbrev cX3_count : ByteArray := prog_1_method_21_code
def yX3_count : MethodName := ⟨RX3, "count", "(IC)I"⟩
abbrev cX3_isWithin : ByteArray := prog_1_method_25_code
def yX3_isWithin : MethodName := ⟨RX3, "isWithin", "(III)Z"⟩
abbrev cX3_beamlineNumbered : ByteArray := prog_1_method_26_code
def yX3_beamlineNumbered : MethodName := ⟨RX3, "beamlineNumbered", "(I)LBeamOffice$Beamline;"⟩
abbrev cX3_proposalNumbered : ByteArray := prog_1_method_27_code
def yX3_proposalNumbered : MethodName := ⟨RX3, "proposalNumbered", "(I)LBeamOffice$Proposal;"⟩
abbrev cX3_allotAtScore : ByteArray := prog_1_method_28_code
def yX3_allotAtScore : MethodName := ⟨RX3, "allotAtScore", "(LBeamOffice$Beamline;I)V"⟩
abbrev cX3_countCold : ByteArray := prog_1_method_29_code
def yX3_countCold : MethodName := ⟨RX3, "countCold", "()I"⟩
abbrev cX3_leftKept : ByteArray := prog_1_method_31_code
def yX3_leftKept : MethodName := ⟨RX3, "leftKept", "(LBeamOffice$Proposal;)I"⟩
abbrev cX3_isMarked : ByteArray := prog_1_method_32_code
def yX3_isMarked : MethodName := ⟨RX3, "isMarked", "([ZI)Z"⟩
abbrev cX3_reasonAt : ByteArray := prog_1_method_33_code
def yX3_reasonAt : MethodName := ⟨RX3, "reasonAt", "(LBeamOffice$Beamline;)C"⟩
abbrev cX3_kindFor : ByteArray := prog_1_method_34_code
def yX3_kindFor : MethodName := ⟨RX3, "kindFor", "(C)C"⟩
abbrev cX3_passOne : ByteArray := prog_1_method_35_code
def yX3_passOne : MethodName := ⟨RX3, "passOne", "()I"⟩
def RX4 : String := "BeamOfficeModel"
def TX4 : u_T := fun k => match k with
  | _ => ("", "", "", false)
def tyX4 : Nat → FieldType := fun k => match k with
  | _ => .int
abbrev wsX40 : List Cond := u_ws RX4 TX4 0
theorem nmX4 : ∀ a, a < 0 → ∀ b, b < 0 → a ≠ b → (TX4 a).2.1 ≠ (TX4 b).2.1 := by decide +kernel
theorem tyX4_ok : ∀ k, k < 0 → parseFieldDescriptor (TX4 k).2.2.1 = some (tyX4 k) := by decide +kernel
def RJx145de : String := "java/io/Serializable"
def TJx145de : u_T := fun k => match k with
  | _ => ("", "", "", false)
def tyJx145de : Nat → FieldType := fun k => match k with
  | _ => .int
abbrev wsJx145de0 : List Cond := u_ws RJx145de TJx145de 0
theorem nmJx145de : ∀ a, a < 0 → ∀ b, b < 0 → a ≠ b → (TJx145de a).2.1 ≠ (TJx145de b).2.1 := by decide +kernel
theorem tyJx145de_ok : ∀ k, k < 0 → parseFieldDescriptor (TJx145de k).2.2.1 = some (tyJx145de k) := by decide +kernel
def RJx00060 : String := "java/lang/ArrayIndexOutOfBoundsException"
def TJx00060 : u_T := fun k => match k with
  | 0 => ("java/lang/Throwable", "backtrace", "Ljava/lang/Object;", false)
  | 1 => ("java/lang/Throwable", "detailMessage", "Ljava/lang/String;", false)
  | 2 => ("java/lang/Throwable", "cause", "Ljava/lang/Throwable;", false)
  | 3 => ("java/lang/Throwable", "stackTrace", "[Ljava/lang/StackTraceElement;", false)
  | 4 => ("java/lang/Throwable", "depth", "I", false)
  | _ => ("java/lang/Throwable", "suppressedExceptions", "Ljava/util/List;", false)
def tyJx00060 : Nat → FieldType := fun k => match k with
  | 0 => .object "java/lang/Object"
  | 1 => .object "java/lang/String"
  | 2 => .object "java/lang/Throwable"
  | 3 => .array (.object "java/lang/StackTraceElement")
  | 4 => .int
  | _ => .object "java/util/List"
abbrev wsJx000600 : List Cond := u_ws RJx00060 TJx00060 6
theorem nmJx00060 : ∀ a, a < 6 → ∀ b, b < 6 → a ≠ b → (TJx00060 a).2.1 ≠ (TJx00060 b).2.1 := by decide +kernel
theorem tyJx00060_ok : ∀ k, k < 6 → parseFieldDescriptor (TJx00060 k).2.2.1 = some (tyJx00060 k) := by decide +kernel
abbrev cJx00060_init_a7421 : ByteArray := prog_8_method_2_code
def yJx00060_init_a7421 : MethodName := ⟨RJx00060, "<init>", "(Ljava/lang/String;)V"⟩
def RJx9f9b0 : String := "java/lang/CharSequence"
def TJx9f9b0 : u_T := fun k => match k with
  | _ => ("", "", "", false)
def tyJx9f9b0 : Nat → FieldType := fun k => match k with
  | _ => .int
abbrev wsJx9f9b00 : List Cond := u_ws RJx9f9b0 TJx9f9b0 0
theorem nmJx9f9b0 : ∀ a, a < 0 → ∀ b, b < 0 → a ≠ b → (TJx9f9b0 a).2.1 ≠ (TJx9f9b0 b).2.1 := by decide +kernel
theorem tyJx9f9b0_ok : ∀ k, k < 0 → parseFieldDescriptor (TJx9f9b0 k).2.2.1 = some (tyJx9f9b0 k) := by decide +kernel
def RJx8e188 : String := "java/lang/Cloneable"
def TJx8e188 : u_T := fun k => match k with
  | _ => ("", "", "", false)
def tyJx8e188 : Nat → FieldType := fun k => match k with
  | _ => .int
abbrev wsJx8e1880 : List Cond := u_ws RJx8e188 TJx8e188 0
theorem nmJx8e188 : ∀ a, a < 0 → ∀ b, b < 0 → a ≠ b → (TJx8e188 a).2.1 ≠ (TJx8e188 b).2.1 := by decide +kernel
theorem tyJx8e188_ok : ∀ k, k < 0 → parseFieldDescriptor (TJx8e188 k).2.2.1 = some (tyJx8e188 k) := by decide +kernel
def RJxb160c : String := "java/lang/Comparable"
def TJxb160c : u_T := fun k => match k with
  | _ => ("", "", "", false)
def tyJxb160c : Nat → FieldType := fun k => match k with
  | _ => .int
abbrev wsJxb160c0 : List Cond := u_ws RJxb160c TJxb160c 0
theorem nmJxb160c : ∀ a, a < 0 → ∀ b, b < 0 → a ≠ b → (TJxb160c a).2.1 ≠ (TJxb160c b).2.1 := by decide +kernel
theorem tyJxb160c_ok : ∀ k, k < 0 → parseFieldDescriptor (TJxb160c k).2.2.1 = some (tyJxb160c k) := by decide +kernel
def RJxab1ab : String := "java/lang/Iterable"
def TJxab1ab : u_T := fun k => match k with
  | _ => ("", "", "", false)
def tyJxab1ab : Nat → FieldType := fun k => match k with
  | _ => .int
abbrev wsJxab1ab0 : List Cond := u_ws RJxab1ab TJxab1ab 0
theorem nmJxab1ab : ∀ a, a < 0 → ∀ b, b < 0 → a ≠ b → (TJxab1ab a).2.1 ≠ (TJxab1ab b).2.1 := by decide +kernel
theorem tyJxab1ab_ok : ∀ k, k < 0 → parseFieldDescriptor (TJxab1ab k).2.2.1 = some (tyJxab1ab k) := by decide +kernel
def RJ9 : String := "java/lang/Math"
def TJ9 : u_T := fun k => match k with
  | _ => ("", "", "", false)
def tyJ9 : Nat → FieldType := fun k => match k with
  | _ => .int
abbrev wsJ90 : List Cond := u_ws RJ9 TJ9 0
theorem nmJ9 : ∀ a, a < 0 → ∀ b, b < 0 → a ≠ b → (TJ9 a).2.1 ≠ (TJ9 b).2.1 := by decide +kernel
theorem tyJ9_ok : ∀ k, k < 0 → parseFieldDescriptor (TJ9 k).2.2.1 = some (tyJ9 k) := by decide +kernel
abbrev cJ9_max_7cf53 : ByteArray := prog_17_method_65_code
def yJ9_max_7cf53 : MethodName := ⟨RJ9, "max", "(II)I"⟩
abbrev cJ9_min_7cf53 : ByteArray := prog_17_method_69_code
def yJ9_min_7cf53 : MethodName := ⟨RJ9, "min", "(II)I"⟩
def RJ0 : String := "java/lang/String"
def TJ0 : u_T := fun k => match k with
  | 0 => ("java/lang/String", "value", "[B", true)
  | _ => ("java/lang/String", "coder", "B", true)
def tyJ0 : Nat → FieldType := fun k => match k with
  | 0 => .array .byte
  | _ => .byte
abbrev wsJ00 : List Cond := u_ws RJ0 TJ0 2
theorem nmJ0 : ∀ a, a < 2 → ∀ b, b < 2 → a ≠ b → (TJ0 a).2.1 ≠ (TJ0 b).2.1 := by decide +kernel
theorem tyJ0_ok : ∀ k, k < 2 → parseFieldDescriptor (TJ0 k).2.2.1 = some (tyJ0 k) := by decide +kernel
abbrev cJ0_charAt_5068e : ByteArray := prog_19_method_56_code
def yJ0_charAt_5068e : MethodName := ⟨RJ0, "charAt", "(I)C"⟩
abbrev cJ0_isLatin1_aae02 : ByteArray := prog_19_method_154_code
def yJ0_isLatin1_aae02 : MethodName := ⟨RJ0, "isLatin1", "()Z"⟩
abbrev cJ0_checkIndex_df160 : ByteArray := prog_19_method_155_code
def yJ0_checkIndex_df160 : MethodName := ⟨RJ0, "checkIndex", "(II)V"⟩
def RJ1 : String := "java/lang/StringLatin1"
def TJ1 : u_T := fun k => match k with
  | _ => ("", "", "", false)
def tyJ1 : Nat → FieldType := fun k => match k with
  | _ => .int
abbrev wsJ10 : List Cond := u_ws RJ1 TJ1 0
theorem nmJ1 : ∀ a, a < 0 → ∀ b, b < 0 → a ≠ b → (TJ1 a).2.1 ≠ (TJ1 b).2.1 := by decide +kernel
theorem tyJ1_ok : ∀ k, k < 0 → parseFieldDescriptor (TJ1 k).2.2.1 = some (tyJ1 k) := by decide +kernel
abbrev cJ1_charAt_3b067 : ByteArray := prog_20_method_2_code
def yJ1_charAt_3b067 : MethodName := ⟨RJ1, "charAt", "([BI)C"⟩
def RJ2 : String := "java/lang/StringUTF16"
def TJ2 : u_T := fun k => match k with
  | _ => ("", "", "", false)
def tyJ2 : Nat → FieldType := fun k => match k with
  | _ => .int
abbrev wsJ20 : List Cond := u_ws RJ2 TJ2 0
theorem nmJ2 : ∀ a, a < 0 → ∀ b, b < 0 → a ≠ b → (TJ2 a).2.1 ≠ (TJ2 b).2.1 := by decide +kernel
theorem tyJ2_ok : ∀ k, k < 0 → parseFieldDescriptor (TJ2 k).2.2.1 = some (tyJ2 k) := by decide +kernel
abbrev cJ2_getChar_3b067 : ByteArray := prog_21_method_5_code
def yJ2_getChar_3b067 : MethodName := ⟨RJ2, "getChar", "([BI)C"⟩
abbrev cJ2_length_9d52b : ByteArray := prog_21_method_6_code
def yJ2_length_9d52b : MethodName := ⟨RJ2, "length", "([B)I"⟩
abbrev cJ2_charAt_3b067 : ByteArray := prog_21_method_83_code
def yJ2_charAt_3b067 : MethodName := ⟨RJ2, "charAt", "([BI)C"⟩
abbrev cJ2_checkIndex_2214a : ByteArray := prog_21_method_91_code
def yJ2_checkIndex_2214a : MethodName := ⟨RJ2, "checkIndex", "(I[B)V"⟩
def RJ10 : String := "java/lang/System"
def TJ10 : u_T := fun k => match k with
  | _ => ("", "", "", false)
def tyJ10 : Nat → FieldType := fun k => match k with
  | _ => .int
abbrev wsJ100 : List Cond := u_ws RJ10 TJ10 0
theorem nmJ10 : ∀ a, a < 0 → ∀ b, b < 0 → a ≠ b → (TJ10 a).2.1 ≠ (TJ10 b).2.1 := by decide +kernel
theorem tyJ10_ok : ∀ k, k < 0 → parseFieldDescriptor (TJ10 k).2.2.1 = some (tyJ10 k) := by decide +kernel
def RJxfd54e : String := "java/lang/constant/Constable"
def TJxfd54e : u_T := fun k => match k with
  | _ => ("", "", "", false)
def tyJxfd54e : Nat → FieldType := fun k => match k with
  | _ => .int
abbrev wsJxfd54e0 : List Cond := u_ws RJxfd54e TJxfd54e 0
theorem nmJxfd54e : ∀ a, a < 0 → ∀ b, b < 0 → a ≠ b → (TJxfd54e a).2.1 ≠ (TJxfd54e b).2.1 := by decide +kernel
theorem tyJxfd54e_ok : ∀ k, k < 0 → parseFieldDescriptor (TJxfd54e k).2.2.1 = some (tyJxfd54e k) := by decide +kernel
def RJx3cf43 : String := "java/lang/constant/ConstantDesc"
def TJx3cf43 : u_T := fun k => match k with
  | _ => ("", "", "", false)
def tyJx3cf43 : Nat → FieldType := fun k => match k with
  | _ => .int
abbrev wsJx3cf430 : List Cond := u_ws RJx3cf43 TJx3cf43 0
theorem nmJx3cf43 : ∀ a, a < 0 → ∀ b, b < 0 → a ≠ b → (TJx3cf43 a).2.1 ≠ (TJx3cf43 b).2.1 := by decide +kernel
theorem tyJx3cf43_ok : ∀ k, k < 0 → parseFieldDescriptor (TJx3cf43 k).2.2.1 = some (tyJx3cf43 k) := by decide +kernel
def RJxa1e45 : String := "java/util/AbstractCollection"
def TJxa1e45 : u_T := fun k => match k with
  | _ => ("", "", "", false)
def tyJxa1e45 : Nat → FieldType := fun k => match k with
  | _ => .int
abbrev wsJxa1e450 : List Cond := u_ws RJxa1e45 TJxa1e45 0
theorem nmJxa1e45 : ∀ a, a < 0 → ∀ b, b < 0 → a ≠ b → (TJxa1e45 a).2.1 ≠ (TJxa1e45 b).2.1 := by decide +kernel
theorem tyJxa1e45_ok : ∀ k, k < 0 → parseFieldDescriptor (TJxa1e45 k).2.2.1 = some (tyJxa1e45 k) := by decide +kernel
abbrev cJxa1e45_init_da8c8 : ByteArray := prog_27_method_1_code
def yJxa1e45_init_da8c8 : MethodName := ⟨RJxa1e45, "<init>", "()V"⟩
def RJxc12de : String := "java/util/AbstractList"
def TJxc12de : u_T := fun k => match k with
  | _ => ("", "", "", false)
def tyJxc12de : Nat → FieldType := fun k => match k with
  | _ => .int
abbrev wsJxc12de0 : List Cond := u_ws RJxc12de TJxc12de 0
theorem nmJxc12de : ∀ a, a < 0 → ∀ b, b < 0 → a ≠ b → (TJxc12de a).2.1 ≠ (TJxc12de b).2.1 := by decide +kernel
theorem tyJxc12de_ok : ∀ k, k < 0 → parseFieldDescriptor (TJxc12de k).2.2.1 = some (tyJxc12de k) := by decide +kernel
abbrev cJxc12de_init_da8c8 : ByteArray := prog_28_method_1_code
def yJxc12de_init_da8c8 : MethodName := ⟨RJxc12de, "<init>", "()V"⟩
def RJx4a65c : String := "java/util/ArrayList"
def TJx4a65c : u_T := fun k => match k with
  | 0 => ("java/util/AbstractList", "modCount", "I", false)
  | 1 => ("java/util/ArrayList", "elementData", "[Ljava/lang/Object;", false)
  | _ => ("java/util/ArrayList", "size", "I", false)
def tyJx4a65c : Nat → FieldType := fun k => match k with
  | 0 => .int
  | 1 => .array (.object "java/lang/Object")
  | _ => .int
abbrev wsJx4a65c0 : List Cond := u_ws RJx4a65c TJx4a65c 3
theorem nmJx4a65c : ∀ a, a < 3 → ∀ b, b < 3 → a ≠ b → (TJx4a65c a).2.1 ≠ (TJx4a65c b).2.1 := by decide +kernel
theorem tyJx4a65c_ok : ∀ k, k < 3 → parseFieldDescriptor (TJx4a65c k).2.2.1 = some (tyJx4a65c k) := by decide +kernel
abbrev cJx4a65c_init_da8c8 : ByteArray := prog_29_method_2_code
def yJx4a65c_init_da8c8 : MethodName := ⟨RJx4a65c, "<init>", "()V"⟩
abbrev cJx4a65c_grow_92f84 : ByteArray := prog_29_method_6_code
def yJx4a65c_grow_92f84 : MethodName := ⟨RJx4a65c, "grow", "(I)[Ljava/lang/Object;"⟩
abbrev cJx4a65c_grow_d5877 : ByteArray := prog_29_method_7_code
def yJx4a65c_grow_d5877 : MethodName := ⟨RJx4a65c, "grow", "()[Ljava/lang/Object;"⟩
abbrev cJx4a65c_size_8abf5 : ByteArray := prog_29_method_8_code
def yJx4a65c_size_8abf5 : MethodName := ⟨RJx4a65c, "size", "()I"⟩
abbrev cJx4a65c_elementData_915e3 : ByteArray := prog_29_method_18_code
def yJx4a65c_elementData_915e3 : MethodName := ⟨RJx4a65c, "elementData", "(I)Ljava/lang/Object;"⟩
abbrev cJx4a65c_get_915e3 : ByteArray := prog_29_method_20_code
def yJx4a65c_get_915e3 : MethodName := ⟨RJx4a65c, "get", "(I)Ljava/lang/Object;"⟩
abbrev cJx4a65c_add_72be8 : ByteArray := prog_29_method_24_code
def yJx4a65c_add_72be8 : MethodName := ⟨RJx4a65c, "add", "(Ljava/lang/Object;[Ljava/lang/Object;I)V"⟩
abbrev cJx4a65c_add_9ea2d : ByteArray := prog_29_method_25_code
def yJx4a65c_add_9ea2d : MethodName := ⟨RJx4a65c, "add", "(Ljava/lang/Object;)Z"⟩
def RJ7 : String := "java/util/Arrays"
def TJ7 : u_T := fun k => match k with
  | _ => ("", "", "", false)
def tyJ7 : Nat → FieldType := fun k => match k with
  | _ => .int
abbrev wsJ70 : List Cond := u_ws RJ7 TJ7 0
theorem nmJ7 : ∀ a, a < 0 → ∀ b, b < 0 → a ≠ b → (TJ7 a).2.1 ≠ (TJ7 b).2.1 := by decide +kernel
theorem tyJ7_ok : ∀ k, k < 0 → parseFieldDescriptor (TJ7 k).2.2.1 = some (tyJ7 k) := by decide +kernel
abbrev cJ7_copyOf_1904c : ByteArray := prog_30_method_119_code
def yJ7_copyOf_1904c : MethodName := ⟨RJ7, "copyOf", "([Ljava/lang/Object;I)[Ljava/lang/Object;"⟩
abbrev cJ7_copyOf_6403c : ByteArray := prog_30_method_120_code
def yJ7_copyOf_6403c : MethodName := ⟨RJ7, "copyOf", "([Ljava/lang/Object;ILjava/lang/Class;)[Ljava/lang/Object;"⟩
def RJx5ef63 : String := "java/util/Collection"
def TJx5ef63 : u_T := fun k => match k with
  | _ => ("", "", "", false)
def tyJx5ef63 : Nat → FieldType := fun k => match k with
  | _ => .int
abbrev wsJx5ef630 : List Cond := u_ws RJx5ef63 TJx5ef63 0
theorem nmJx5ef63 : ∀ a, a < 0 → ∀ b, b < 0 → a ≠ b → (TJx5ef63 a).2.1 ≠ (TJx5ef63 b).2.1 := by decide +kernel
theorem tyJx5ef63_ok : ∀ k, k < 0 → parseFieldDescriptor (TJx5ef63 k).2.2.1 = some (tyJx5ef63 k) := by decide +kernel
def RJxbd725 : String := "java/util/List"
def TJxbd725 : u_T := fun k => match k with
  | _ => ("", "", "", false)
def tyJxbd725 : Nat → FieldType := fun k => match k with
  | _ => .int
abbrev wsJxbd7250 : List Cond := u_ws RJxbd725 TJxbd725 0
theorem nmJxbd725 : ∀ a, a < 0 → ∀ b, b < 0 → a ≠ b → (TJxbd725 a).2.1 ≠ (TJxbd725 b).2.1 := by decide +kernel
theorem tyJxbd725_ok : ∀ k, k < 0 → parseFieldDescriptor (TJxbd725 k).2.2.1 = some (tyJxbd725 k) := by decide +kernel
def RJ15 : String := "java/util/Objects"
def TJ15 : u_T := fun k => match k with
  | _ => ("", "", "", false)
def tyJ15 : Nat → FieldType := fun k => match k with
  | _ => .int
abbrev wsJ150 : List Cond := u_ws RJ15 TJ15 0
theorem nmJ15 : ∀ a, a < 0 → ∀ b, b < 0 → a ≠ b → (TJ15 a).2.1 ≠ (TJ15 b).2.1 := by decide +kernel
theorem tyJ15_ok : ∀ k, k < 0 → parseFieldDescriptor (TJ15 k).2.2.1 = some (tyJ15 k) := by decide +kernel
abbrev cJ15_checkIndex_7cf53 : ByteArray := prog_34_method_17_code
def yJ15_checkIndex_7cf53 : MethodName := ⟨RJ15, "checkIndex", "(II)I"⟩
def RJxf0a74 : String := "java/util/RandomAccess"
def TJxf0a74 : u_T := fun k => match k with
  | _ => ("", "", "", false)
def tyJxf0a74 : Nat → FieldType := fun k => match k with
  | _ => .int
abbrev wsJxf0a740 : List Cond := u_ws RJxf0a74 TJxf0a74 0
theorem nmJxf0a74 : ∀ a, a < 0 → ∀ b, b < 0 → a ≠ b → (TJxf0a74 a).2.1 ≠ (TJxf0a74 b).2.1 := by decide +kernel
theorem tyJxf0a74_ok : ∀ k, k < 0 → parseFieldDescriptor (TJxf0a74 k).2.2.1 = some (tyJxf0a74 k) := by decide +kernel
def RJxa66e6 : String := "java/util/SequencedCollection"
def TJxa66e6 : u_T := fun k => match k with
  | _ => ("", "", "", false)
def tyJxa66e6 : Nat → FieldType := fun k => match k with
  | _ => .int
abbrev wsJxa66e60 : List Cond := u_ws RJxa66e6 TJxa66e6 0
theorem nmJxa66e6 : ∀ a, a < 0 → ∀ b, b < 0 → a ≠ b → (TJxa66e6 a).2.1 ≠ (TJxa66e6 b).2.1 := by decide +kernel
theorem tyJxa66e6_ok : ∀ k, k < 0 → parseFieldDescriptor (TJxa66e6 k).2.2.1 = some (tyJxa66e6 k) := by decide +kernel
def RJ8 : String := "jdk/internal/util/ArraysSupport"
def TJ8 : u_T := fun k => match k with
  | _ => ("", "", "", false)
def tyJ8 : Nat → FieldType := fun k => match k with
  | _ => .int
abbrev wsJ80 : List Cond := u_ws RJ8 TJ8 0
theorem nmJ8 : ∀ a, a < 0 → ∀ b, b < 0 → a ≠ b → (TJ8 a).2.1 ≠ (TJ8 b).2.1 := by decide +kernel
theorem tyJ8_ok : ∀ k, k < 0 → parseFieldDescriptor (TJ8 k).2.2.1 = some (tyJ8 k) := by decide +kernel
abbrev cJ8_newLength_cabcc : ByteArray := prog_37_method_27_code
def yJ8_newLength_cabcc : MethodName := ⟨RJ8, "newLength", "(III)I"⟩
abbrev cJ8_hugeLength_7cf53 : ByteArray := prog_37_method_28_code
def yJ8_hugeLength_7cf53 : MethodName := ⟨RJ8, "hugeLength", "(II)I"⟩
def RJ3 : String := "jdk/internal/util/Preconditions"
def TJ3 : u_T := fun k => match k with
  | _ => ("", "", "", false)
def tyJ3 : Nat → FieldType := fun k => match k with
  | _ => .int
abbrev wsJ30 : List Cond := u_ws RJ3 TJ3 0
theorem nmJ3 : ∀ a, a < 0 → ∀ b, b < 0 → a ≠ b → (TJ3 a).2.1 ≠ (TJ3 b).2.1 := by decide +kernel
theorem tyJ3_ok : ∀ k, k < 0 → parseFieldDescriptor (TJ3 k).2.2.1 = some (tyJ3 k) := by decide +kernel
abbrev cJ3_checkIndex_8e157 : ByteArray := prog_38_method_11_code
def yJ3_checkIndex_8e157 : MethodName := ⟨RJ3, "checkIndex", "(IILjava/util/function/BiFunction;)I"⟩
def RL : String := "BeamOfficeLaw"
abbrev cL_cell : ByteArray := method_2_code
def yL_cell : MethodName := ⟨RL, "cell", "([II)I"⟩
abbrev cL_pick : ByteArray := method_3_code
def yL_pick : MethodName := ⟨RL, "pick", "([III)I"⟩
abbrev cL_addBeamline : ByteArray := method_4_code
def yL_addBeamline : MethodName := ⟨RL, "addBeamline", "(LBeamOffice;II)I"⟩
abbrev cL_setRate : ByteArray := method_5_code
def yL_setRate : MethodName := ⟨RL, "setRate", "(LBeamOffice;II)I"⟩
abbrev cL_propose : ByteArray := method_6_code
def yL_propose : MethodName := ⟨RL, "propose", "(LBeamOffice;IIIII)I"⟩
abbrev cL_meet : ByteArray := method_7_code
def yL_meet : MethodName := ⟨RL, "meet", "(LBeamOffice;I)I"⟩
abbrev cL_reserve : ByteArray := method_8_code
def yL_reserve : MethodName := ⟨RL, "reserve", "(LBeamOffice;I)I"⟩
abbrev cL_train : ByteArray := method_9_code
def yL_train : MethodName := ⟨RL, "train", "(LBeamOffice;I)I"⟩
abbrev cL_setThere : ByteArray := method_10_code
def yL_setThere : MethodName := ⟨RL, "setThere", "(LBeamOffice;IZ)I"⟩
abbrev cL_bring : ByteArray := method_11_code
def yL_bring : MethodName := ⟨RL, "bring", "(LBeamOffice;II)I"⟩
abbrev cL_put : ByteArray := method_12_code
def yL_put : MethodName := ⟨RL, "put", "(LBeamOffice;IC)I"⟩
abbrev cL_life : ByteArray := method_13_code
def yL_life : MethodName := ⟨RL, "life", "(LBeamOffice;I)I"⟩
abbrev cL_on : ByteArray := method_14_code
def yL_on : MethodName := ⟨RL, "on", "(LBeamOffice;I)I"⟩
abbrev cL_reason : ByteArray := method_15_code
def yL_reason : MethodName := ⟨RL, "reason", "(LBeamOffice;I)I"⟩
abbrev cL_fail : ByteArray := method_16_code
def yL_fail : MethodName := ⟨RL, "fail", "(LBeamOffice;I)I"⟩
abbrev cL_pass : ByteArray := method_17_code
def yL_pass : MethodName := ⟨RL, "pass", "(LBeamOffice;I)I"⟩
abbrev cL_left : ByteArray := method_19_code
def yL_left : MethodName := ⟨RL, "left", "(LBeamOffice;I)I"⟩
abbrev cL_leftAnew : ByteArray := method_20_code
def yL_leftAnew : MethodName := ⟨RL, "leftAnew", "(LBeamOffice;I)I"⟩
abbrev cL_nextAt : ByteArray := method_21_code
def yL_nextAt : MethodName := ⟨RL, "nextAt", "(LBeamOffice;I)I"⟩
abbrev cL_count : ByteArray := method_22_code
def yL_count : MethodName := ⟨RL, "count", "(LBeamOffice;IC)I"⟩
abbrev cL_sums : ByteArray := method_24_code
def yL_sums : MethodName := ⟨RL, "sums", "(LBeamOffice;[I[II[I)Z"⟩
abbrev cL_lines : ByteArray := method_25_code
def yL_lines : MethodName := ⟨RL, "lines", "(LBeamOffice;[II[I[Z[Z)Z"⟩
abbrev cL_shift : ByteArray := method_26_code
def yL_shift : MethodName := ⟨RL, "shift", "(LBeamOffice;I[C)Z"⟩
abbrev cL_law : ByteArray := code
def yL_law : MethodName := ⟨RL, "law", "([I)Z"⟩
abbrev vwCl : List vw_C := [(RJ0, TJ0, 2), (RJx00060, TJx00060, 6), (RJx4a65c, TJx4a65c, 3), (RX0, TX0, 11), (RX1, TX1, 3), (RX2, TX2, 13), (RX3, TX3, 5)]
end
section
theorem dX0_init_0 : decode cX0_init 0 = .ok (.aload_n 0, 1) := by decide +kernel
theorem dX0_init_1 : decode cX0_init 1 = .ok (.invokespecial 3, 3) := by decide +kernel
theorem dX0_init_4 : decode cX0_init 4 = .ok (.aload_n 0, 1) := by decide +kernel
theorem dX0_init_5 : decode cX0_init 5 = .ok (.new 9, 3) := by decide +kernel
theorem dX0_init_8 : decode cX0_init 8 = .ok (.dup, 1) := by decide +kernel
theorem dX0_init_9 : decode cX0_init 9 = .ok (.invokespecial 11, 3) := by decide +kernel
theorem dX0_init_12 : decode cX0_init 12 = .ok (.putfield 12, 3) := by decide +kernel
theorem dX0_init_15 : decode cX0_init 15 = .ok (.aload_n 0, 1) := by decide +kernel
theorem dX0_init_16 : decode cX0_init 16 = .ok (.new 18, 3) := by decide +kernel
theorem dX0_init_19 : decode cX0_init 19 = .ok (.dup, 1) := by decide +kernel
theorem dX0_init_20 : decode cX0_init 20 = .ok (.invokespecial 20, 3) := by decide +kernel
theorem dX0_init_23 : decode cX0_init 23 = .ok (.putfield 21, 3) := by decide +kernel
theorem dX0_init_26 : decode cX0_init 26 = .ok (.aload_n 0, 1) := by decide +kernel
theorem dX0_init_27 : decode cX0_init 27 = .ok (.new 18, 3) := by decide +kernel
theorem dX0_init_30 : decode cX0_init 30 = .ok (.dup, 1) := by decide +kernel
theorem dX0_init_31 : decode cX0_init 31 = .ok (.invokespecial 20, 3) := by decide +kernel
theorem dX0_init_34 : decode cX0_init 34 = .ok (.putfield 25, 3) := by decide +kernel
theorem dX0_init_37 : decode cX0_init 37 = .ok (.aload_n 0, 1) := by decide +kernel
theorem dX0_init_38 : decode cX0_init 38 = .ok (.sipush 200, 3) := by decide +kernel
theorem dX0_init_41 : decode cX0_init 41 = .ok (.newarray .char, 2) := by decide +kernel
theorem dX0_init_43 : decode cX0_init 43 = .ok (.putfield 28, 3) := by decide +kernel
theorem dX0_init_46 : decode cX0_init 46 = .ok (.aload_n 0, 1) := by decide +kernel
theorem dX0_init_47 : decode cX0_init 47 = .ok (.iconst 0, 1) := by decide +kernel
theorem dX0_init_48 : decode cX0_init 48 = .ok (.putfield 32, 3) := by decide +kernel
theorem dX0_init_51 : decode cX0_init 51 = .ok (.aload_n 0, 1) := by decide +kernel
theorem dX0_init_52 : decode cX0_init 52 = .ok (.iconst 0, 1) := by decide +kernel
theorem dX0_init_53 : decode cX0_init 53 = .ok (.putfield 36, 3) := by decide +kernel
theorem dX0_init_56 : decode cX0_init 56 = .ok (.aload_n 0, 1) := by decide +kernel
theorem dX0_init_57 : decode cX0_init 57 = .ok (.iconst 0, 1) := by decide +kernel
theorem dX0_init_58 : decode cX0_init 58 = .ok (.putfield 39, 3) := by decide +kernel
theorem dX0_init_61 : decode cX0_init 61 = .ok (.aload_n 0, 1) := by decide +kernel
theorem dX0_init_62 : decode cX0_init 62 = .ok (.iconst 0, 1) := by decide +kernel
theorem dX0_init_63 : decode cX0_init 63 = .ok (.putfield 42, 3) := by decide +kernel
theorem dX0_init_66 : decode cX0_init 66 = .ok (.aload_n 0, 1) := by decide +kernel
theorem dX0_init_67 : decode cX0_init 67 = .ok (.iconst 0, 1) := by decide +kernel
theorem dX0_init_68 : decode cX0_init 68 = .ok (.putfield 46, 3) := by decide +kernel
theorem dX0_init_71 : decode cX0_init 71 = .ok (.aload_n 0, 1) := by decide +kernel
theorem dX0_init_72 : decode cX0_init 72 = .ok (.iload_n 1, 1) := by decide +kernel
theorem dX0_init_73 : decode cX0_init 73 = .ok (.putfield 49, 3) := by decide +kernel
theorem dX0_init_76 : decode cX0_init 76 = .ok (.aload_n 0, 1) := by decide +kernel
theorem dX0_init_77 : decode cX0_init 77 = .ok (.iload_n 2, 1) := by decide +kernel
theorem dX0_init_78 : decode cX0_init 78 = .ok (.putfield 52, 3) := by decide +kernel
theorem dX0_init_81 : decode cX0_init 81 = .ok (.aload_n 0, 1) := by decide +kernel
theorem dX0_init_82 : decode cX0_init 82 = .ok (.getfield 21, 3) := by decide +kernel
theorem dX0_init_85 : decode cX0_init 85 = .ok (.iload_n 1, 1) := by decide +kernel
theorem dX0_init_86 : decode cX0_init 86 = .ok (.invokevirtual 55, 3) := by decide +kernel
theorem dX0_init_89 : decode cX0_init 89 = .ok (.return_, 1) := by decide +kernel
theorem dX0_allot_0 : decode cX0_allot 0 = .ok (.aload_n 0, 1) := by decide +kernel
theorem dX0_allot_1 : decode cX0_allot 1 = .ok (.getfield 21, 3) := by decide +kernel
theorem dX0_allot_4 : decode cX0_allot 4 = .ok (.aload_n 1, 1) := by decide +kernel
theorem dX0_allot_5 : decode cX0_allot 5 = .ok (.getfield 59, 3) := by decide +kernel
theorem dX0_allot_8 : decode cX0_allot 8 = .ok (.invokevirtual 64, 3) := by decide +kernel
theorem dX0_allot_11 : decode cX0_allot 11 = .ok (.istore_n 2, 1) := by decide +kernel
theorem dX0_allot_12 : decode cX0_allot 12 = .ok (.iload_n 2, 1) := by decide +kernel
theorem dX0_allot_13 : decode cX0_allot 13 = .ok (.iconst (-1), 1) := by decide +kernel
theorem dX0_allot_14 : decode cX0_allot 14 = .ok (.if_icmp .eq 17, 3) := by decide +kernel
theorem dX0_allot_17 : decode cX0_allot 17 = .ok (.aload_n 1, 1) := by decide +kernel
theorem dX0_allot_18 : decode cX0_allot 18 = .ok (.iload_n 2, 1) := by decide +kernel
theorem dX0_allot_19 : decode cX0_allot 19 = .ok (.putfield 68, 3) := by decide +kernel
theorem dX0_allot_22 : decode cX0_allot 22 = .ok (.aload_n 0, 1) := by decide +kernel
theorem dX0_allot_23 : decode cX0_allot 23 = .ok (.getfield 12, 3) := by decide +kernel
theorem dX0_allot_26 : decode cX0_allot 26 = .ok (.aload_n 1, 1) := by decide +kernel
theorem dX0_allot_27 : decode cX0_allot 27 = .ok (.invokevirtual 71, 3) := by decide +kernel
theorem dX0_allot_30 : decode cX0_allot 30 = .ok (.pop, 1) := by decide +kernel
theorem dX0_allot_31 : decode cX0_allot 31 = .ok (.return_, 1) := by decide +kernel
theorem dX0_proposalAt_0 : decode cX0_proposalAt 0 = .ok (.iload_n 1, 1) := by decide +kernel
theorem dX0_proposalAt_1 : decode cX0_proposalAt 1 = .ok (.ifCond .lt 14, 3) := by decide +kernel
theorem dX0_proposalAt_4 : decode cX0_proposalAt 4 = .ok (.iload_n 1, 1) := by decide +kernel
theorem dX0_proposalAt_5 : decode cX0_proposalAt 5 = .ok (.aload_n 0, 1) := by decide +kernel
theorem dX0_proposalAt_6 : decode cX0_proposalAt 6 = .ok (.getfield 12, 3) := by decide +kernel
theorem dX0_proposalAt_9 : decode cX0_proposalAt 9 = .ok (.invokevirtual 75, 3) := by decide +kernel
theorem dX0_proposalAt_12 : decode cX0_proposalAt 12 = .ok (.if_icmp .lt 5, 3) := by decide +kernel
theorem dX0_proposalAt_15 : decode cX0_proposalAt 15 = .ok (.aconst_null, 1) := by decide +kernel
theorem dX0_proposalAt_16 : decode cX0_proposalAt 16 = .ok (.areturn, 1) := by decide +kernel
theorem dX0_proposalAt_17 : decode cX0_proposalAt 17 = .ok (.aload_n 0, 1) := by decide +kernel
theorem dX0_proposalAt_18 : decode cX0_proposalAt 18 = .ok (.getfield 12, 3) := by decide +kernel
theorem dX0_proposalAt_21 : decode cX0_proposalAt 21 = .ok (.iload_n 1, 1) := by decide +kernel
theorem dX0_proposalAt_22 : decode cX0_proposalAt 22 = .ok (.invokevirtual 79, 3) := by decide +kernel
theorem dX0_proposalAt_25 : decode cX0_proposalAt 25 = .ok (.checkcast 60, 3) := by decide +kernel
theorem dX0_proposalAt_28 : decode cX0_proposalAt 28 = .ok (.areturn, 1) := by decide +kernel
theorem dX0_current_0 : decode cX0_current 0 = .ok (.aload_n 0, 1) := by decide +kernel
theorem dX0_current_1 : decode cX0_current 1 = .ok (.aload_n 0, 1) := by decide +kernel
theorem dX0_current_2 : decode cX0_current 2 = .ok (.getfield 21, 3) := by decide +kernel
theorem dX0_current_5 : decode cX0_current 5 = .ok (.invokevirtual 83, 3) := by decide +kernel
theorem dX0_current_8 : decode cX0_current 8 = .ok (.invokevirtual 86, 3) := by decide +kernel
theorem dX0_current_11 : decode cX0_current 11 = .ok (.areturn, 1) := by decide +kernel
theorem dX0_runShift_0 : decode cX0_runShift 0 = .ok (.aload_n 0, 1) := by decide +kernel
theorem dX0_runShift_1 : decode cX0_runShift 1 = .ok (.invokevirtual 90, 3) := by decide +kernel
theorem dX0_runShift_4 : decode cX0_runShift 4 = .ok (.astore_n 2, 1) := by decide +kernel
theorem dX0_runShift_5 : decode cX0_runShift 5 = .ok (.aload_n 2, 1) := by decide +kernel
theorem dX0_runShift_6 : decode cX0_runShift 6 = .ok (.ifnull 27, 3) := by decide +kernel
theorem dX0_runShift_9 : decode cX0_runShift 9 = .ok (.aload_n 2, 1) := by decide +kernel
theorem dX0_runShift_10 : decode cX0_runShift 10 = .ok (.iload_n 1, 1) := by decide +kernel
theorem dX0_runShift_11 : decode cX0_runShift 11 = .ok (.invokevirtual 94, 3) := by decide +kernel
theorem dX0_runShift_14 : decode cX0_runShift 14 = .ok (.iload_n 1, 1) := by decide +kernel
theorem dX0_runShift_15 : decode cX0_runShift 15 = .ok (.bipush 100, 2) := by decide +kernel
theorem dX0_runShift_17 : decode cX0_runShift 17 = .ok (.if_icmp .ne 16, 3) := by decide +kernel
theorem dX0_runShift_20 : decode cX0_runShift 20 = .ok (.aload_n 0, 1) := by decide +kernel
theorem dX0_runShift_21 : decode cX0_runShift 21 = .ok (.dup, 1) := by decide +kernel
theorem dX0_runShift_22 : decode cX0_runShift 22 = .ok (.getfield 39, 3) := by decide +kernel
theorem dX0_runShift_25 : decode cX0_runShift 25 = .ok (.aload_n 2, 1) := by decide +kernel
theorem dX0_runShift_26 : decode cX0_runShift 26 = .ok (.getfield 98, 3) := by decide +kernel
theorem dX0_runShift_29 : decode cX0_runShift 29 = .ok (.iadd, 1) := by decide +kernel
theorem dX0_runShift_30 : decode cX0_runShift 30 = .ok (.putfield 39, 3) := by decide +kernel
theorem dX0_runShift_33 : decode cX0_runShift 33 = .ok (.aload_n 0, 1) := by decide +kernel
theorem dX0_runShift_34 : decode cX0_runShift 34 = .ok (.aload_n 0, 1) := by decide +kernel
theorem dX0_runShift_35 : decode cX0_runShift 35 = .ok (.getfield 21, 3) := by decide +kernel
theorem dX0_runShift_38 : decode cX0_runShift 38 = .ok (.iload_n 1, 1) := by decide +kernel
theorem dX0_runShift_39 : decode cX0_runShift 39 = .ok (.invokevirtual 101, 3) := by decide +kernel
theorem dX0_runShift_42 : decode cX0_runShift 42 = .ok (.invokevirtual 86, 3) := by decide +kernel
theorem dX0_runShift_45 : decode cX0_runShift 45 = .ok (.astore_n 3, 1) := by decide +kernel
theorem dX0_runShift_46 : decode cX0_runShift 46 = .ok (.aload_n 3, 1) := by decide +kernel
theorem dX0_runShift_47 : decode cX0_runShift 47 = .ok (.ifnull 13, 3) := by decide +kernel
theorem dX0_runShift_50 : decode cX0_runShift 50 = .ok (.aload_n 3, 1) := by decide +kernel
theorem dX0_runShift_51 : decode cX0_runShift 51 = .ok (.dup, 1) := by decide +kernel
theorem dX0_runShift_52 : decode cX0_runShift 52 = .ok (.getfield 105, 3) := by decide +kernel
theorem dX0_runShift_55 : decode cX0_runShift 55 = .ok (.iconst 1, 1) := by decide +kernel
theorem dX0_runShift_56 : decode cX0_runShift 56 = .ok (.iadd, 1) := by decide +kernel
theorem dX0_runShift_57 : decode cX0_runShift 57 = .ok (.putfield 105, 3) := by decide +kernel
theorem dX0_runShift_60 : decode cX0_runShift 60 = .ok (.aload_n 0, 1) := by decide +kernel
theorem dX0_runShift_61 : decode cX0_runShift 61 = .ok (.iload_n 1, 1) := by decide +kernel
theorem dX0_runShift_62 : decode cX0_runShift 62 = .ok (.invokevirtual 108, 3) := by decide +kernel
theorem dX0_runShift_65 : decode cX0_runShift 65 = .ok (.aload_n 0, 1) := by decide +kernel
theorem dX0_runShift_66 : decode cX0_runShift 66 = .ok (.iconst 0, 1) := by decide +kernel
theorem dX0_runShift_67 : decode cX0_runShift 67 = .ok (.aload_n 0, 1) := by decide +kernel
theorem dX0_runShift_68 : decode cX0_runShift 68 = .ok (.getfield 39, 3) := by decide +kernel
theorem dX0_runShift_71 : decode cX0_runShift 71 = .ok (.aload_n 0, 1) := by decide +kernel
theorem dX0_runShift_72 : decode cX0_runShift 72 = .ok (.getfield 36, 3) := by decide +kernel
theorem dX0_runShift_75 : decode cX0_runShift 75 = .ok (.isub, 1) := by decide +kernel
theorem dX0_runShift_76 : decode cX0_runShift 76 = .ok (.invokestatic 111, 3) := by decide +kernel
theorem dX0_runShift_79 : decode cX0_runShift 79 = .ok (.putfield 39, 3) := by decide +kernel
theorem dX0_runShift_82 : decode cX0_runShift 82 = .ok (.aload_n 0, 1) := by decide +kernel
theorem dX0_runShift_83 : decode cX0_runShift 83 = .ok (.iconst 0, 1) := by decide +kernel
theorem dX0_runShift_84 : decode cX0_runShift 84 = .ok (.putfield 46, 3) := by decide +kernel
theorem dX0_runShift_87 : decode cX0_runShift 87 = .ok (.return_, 1) := by decide +kernel
theorem dX0_note_0 : decode cX0_note 0 = .ok (.aload_n 0, 1) := by decide +kernel
theorem dX0_note_1 : decode cX0_note 1 = .ok (.getfield 42, 3) := by decide +kernel
theorem dX0_note_4 : decode cX0_note 4 = .ok (.ifCond .eq 35, 3) := by decide +kernel
theorem dX0_note_7 : decode cX0_note 7 = .ok (.aload_n 0, 1) := by decide +kernel
theorem dX0_note_8 : decode cX0_note 8 = .ok (.getfield 32, 3) := by decide +kernel
theorem dX0_note_11 : decode cX0_note 11 = .ok (.aload_n 0, 1) := by decide +kernel
theorem dX0_note_12 : decode cX0_note 12 = .ok (.getfield 28, 3) := by decide +kernel
theorem dX0_note_15 : decode cX0_note 15 = .ok (.arraylength, 1) := by decide +kernel
theorem dX0_note_16 : decode cX0_note 16 = .ok (.if_icmp .ge 23, 3) := by decide +kernel
theorem dX0_note_19 : decode cX0_note 19 = .ok (.aload_n 0, 1) := by decide +kernel
theorem dX0_note_20 : decode cX0_note 20 = .ok (.getfield 28, 3) := by decide +kernel
theorem dX0_note_23 : decode cX0_note 23 = .ok (.aload_n 0, 1) := by decide +kernel
theorem dX0_note_24 : decode cX0_note 24 = .ok (.getfield 32, 3) := by decide +kernel
theorem dX0_note_27 : decode cX0_note 27 = .ok (.iload_n 1, 1) := by decide +kernel
theorem dX0_note_28 : decode cX0_note 28 = .ok (.castore, 1) := by decide +kernel
theorem dX0_note_29 : decode cX0_note 29 = .ok (.aload_n 0, 1) := by decide +kernel
theorem dX0_note_30 : decode cX0_note 30 = .ok (.dup, 1) := by decide +kernel
theorem dX0_note_31 : decode cX0_note 31 = .ok (.getfield 32, 3) := by decide +kernel
theorem dX0_note_34 : decode cX0_note 34 = .ok (.iconst 1, 1) := by decide +kernel
theorem dX0_note_35 : decode cX0_note 35 = .ok (.iadd, 1) := by decide +kernel
theorem dX0_note_36 : decode cX0_note 36 = .ok (.putfield 32, 3) := by decide +kernel
theorem dX0_note_39 : decode cX0_note 39 = .ok (.return_, 1) := by decide +kernel
theorem dX0_replay_0 : decode cX0_replay 0 = .ok (.aload_n 0, 1) := by decide +kernel
theorem dX0_replay_1 : decode cX0_replay 1 = .ok (.getfield 25, 3) := by decide +kernel
theorem dX0_replay_4 : decode cX0_replay 4 = .ok (.aload_n 0, 1) := by decide +kernel
theorem dX0_replay_5 : decode cX0_replay 5 = .ok (.getfield 49, 3) := by decide +kernel
theorem dX0_replay_8 : decode cX0_replay 8 = .ok (.invokevirtual 55, 3) := by decide +kernel
theorem dX0_replay_11 : decode cX0_replay 11 = .ok (.iconst 0, 1) := by decide +kernel
theorem dX0_replay_12 : decode cX0_replay 12 = .ok (.istore_n 1, 1) := by decide +kernel
theorem dX0_replay_13 : decode cX0_replay 13 = .ok (.iload_n 1, 1) := by decide +kernel
theorem dX0_replay_14 : decode cX0_replay 14 = .ok (.aload_n 0, 1) := by decide +kernel
theorem dX0_replay_15 : decode cX0_replay 15 = .ok (.getfield 12, 3) := by decide +kernel
theorem dX0_replay_18 : decode cX0_replay 18 = .ok (.invokevirtual 75, 3) := by decide +kernel
theorem dX0_replay_21 : decode cX0_replay 21 = .ok (.if_icmp .ge 31, 3) := by decide +kernel
theorem dX0_replay_24 : decode cX0_replay 24 = .ok (.aload_n 0, 1) := by decide +kernel
theorem dX0_replay_25 : decode cX0_replay 25 = .ok (.getfield 25, 3) := by decide +kernel
theorem dX0_replay_28 : decode cX0_replay 28 = .ok (.aload_n 0, 1) := by decide +kernel
theorem dX0_replay_29 : decode cX0_replay 29 = .ok (.getfield 12, 3) := by decide +kernel
theorem dX0_replay_32 : decode cX0_replay 32 = .ok (.iload_n 1, 1) := by decide +kernel
theorem dX0_replay_33 : decode cX0_replay 33 = .ok (.invokevirtual 79, 3) := by decide +kernel
theorem dX0_replay_36 : decode cX0_replay 36 = .ok (.checkcast 60, 3) := by decide +kernel
theorem dX0_replay_39 : decode cX0_replay 39 = .ok (.getfield 59, 3) := by decide +kernel
theorem dX0_replay_42 : decode cX0_replay 42 = .ok (.invokevirtual 64, 3) := by decide +kernel
theorem dX0_replay_45 : decode cX0_replay 45 = .ok (.pop, 1) := by decide +kernel
theorem dX0_replay_46 : decode cX0_replay 46 = .ok (.iinc 1 1, 3) := by decide +kernel
theorem dX0_replay_49 : decode cX0_replay 49 = .ok (.goto (-36), 3) := by decide +kernel
theorem dX0_replay_52 : decode cX0_replay 52 = .ok (.iconst 0, 1) := by decide +kernel
theorem dX0_replay_53 : decode cX0_replay 53 = .ok (.istore_n 1, 1) := by decide +kernel
theorem dX0_replay_54 : decode cX0_replay 54 = .ok (.iload_n 1, 1) := by decide +kernel
theorem dX0_replay_55 : decode cX0_replay 55 = .ok (.aload_n 0, 1) := by decide +kernel
theorem dX0_replay_56 : decode cX0_replay 56 = .ok (.getfield 32, 3) := by decide +kernel
theorem dX0_replay_59 : decode cX0_replay 59 = .ok (.if_icmp .ge 32, 3) := by decide +kernel
theorem dX0_replay_62 : decode cX0_replay 62 = .ok (.iload_n 1, 1) := by decide +kernel
theorem dX0_replay_63 : decode cX0_replay 63 = .ok (.aload_n 0, 1) := by decide +kernel
theorem dX0_replay_64 : decode cX0_replay 64 = .ok (.getfield 28, 3) := by decide +kernel
theorem dX0_replay_67 : decode cX0_replay 67 = .ok (.arraylength, 1) := by decide +kernel
theorem dX0_replay_68 : decode cX0_replay 68 = .ok (.if_icmp .ge 23, 3) := by decide +kernel
theorem dX0_replay_71 : decode cX0_replay 71 = .ok (.aload_n 0, 1) := by decide +kernel
theorem dX0_replay_72 : decode cX0_replay 72 = .ok (.getfield 25, 3) := by decide +kernel
theorem dX0_replay_75 : decode cX0_replay 75 = .ok (.aload_n 0, 1) := by decide +kernel
theorem dX0_replay_76 : decode cX0_replay 76 = .ok (.getfield 28, 3) := by decide +kernel
theorem dX0_replay_79 : decode cX0_replay 79 = .ok (.iload_n 1, 1) := by decide +kernel
theorem dX0_replay_80 : decode cX0_replay 80 = .ok (.caload, 1) := by decide +kernel
theorem dX0_replay_81 : decode cX0_replay 81 = .ok (.invokevirtual 101, 3) := by decide +kernel
theorem dX0_replay_84 : decode cX0_replay 84 = .ok (.pop, 1) := by decide +kernel
theorem dX0_replay_85 : decode cX0_replay 85 = .ok (.iinc 1 1, 3) := by decide +kernel
theorem dX0_replay_88 : decode cX0_replay 88 = .ok (.goto (-34), 3) := by decide +kernel
theorem dX0_replay_91 : decode cX0_replay 91 = .ok (.return_, 1) := by decide +kernel
theorem dX1_init_0 : decode cX1_init 0 = .ok (.aload_n 0, 1) := by decide +kernel
theorem dX1_init_1 : decode cX1_init 1 = .ok (.invokespecial 3, 3) := by decide +kernel
theorem dX1_init_4 : decode cX1_init 4 = .ok (.aload_n 0, 1) := by decide +kernel
theorem dX1_init_5 : decode cX1_init 5 = .ok (.bipush 8, 2) := by decide +kernel
theorem dX1_init_7 : decode cX1_init 7 = .ok (.newarray .int, 2) := by decide +kernel
theorem dX1_init_9 : decode cX1_init 9 = .ok (.putfield 9, 3) := by decide +kernel
theorem dX1_init_12 : decode cX1_init 12 = .ok (.aload_n 0, 1) := by decide +kernel
theorem dX1_init_13 : decode cX1_init 13 = .ok (.iconst 0, 1) := by decide +kernel
theorem dX1_init_14 : decode cX1_init 14 = .ok (.putfield 15, 3) := by decide +kernel
theorem dX1_init_17 : decode cX1_init 17 = .ok (.aload_n 0, 1) := by decide +kernel
theorem dX1_init_18 : decode cX1_init 18 = .ok (.iconst 0, 1) := by decide +kernel
theorem dX1_init_19 : decode cX1_init 19 = .ok (.putfield 19, 3) := by decide +kernel
theorem dX1_init_22 : decode cX1_init 22 = .ok (.return_, 1) := by decide +kernel
theorem dX1_begin_0 : decode cX1_begin 0 = .ok (.aload_n 0, 1) := by decide +kernel
theorem dX1_begin_1 : decode cX1_begin 1 = .ok (.iconst 0, 1) := by decide +kernel
theorem dX1_begin_2 : decode cX1_begin 2 = .ok (.putfield 15, 3) := by decide +kernel
theorem dX1_begin_5 : decode cX1_begin 5 = .ok (.aload_n 0, 1) := by decide +kernel
theorem dX1_begin_6 : decode cX1_begin 6 = .ok (.iload_n 1, 1) := by decide +kernel
theorem dX1_begin_7 : decode cX1_begin 7 = .ok (.putfield 19, 3) := by decide +kernel
theorem dX1_begin_10 : decode cX1_begin 10 = .ok (.return_, 1) := by decide +kernel
theorem dX1_allot_0 : decode cX1_allot 0 = .ok (.iload_n 1, 1) := by decide +kernel
theorem dX1_allot_1 : decode cX1_allot 1 = .ok (.aload_n 0, 1) := by decide +kernel
theorem dX1_allot_2 : decode cX1_allot 2 = .ok (.getfield 19, 3) := by decide +kernel
theorem dX1_allot_5 : decode cX1_allot 5 = .ok (.if_icmp .gt 15, 3) := by decide +kernel
theorem dX1_allot_8 : decode cX1_allot 8 = .ok (.aload_n 0, 1) := by decide +kernel
theorem dX1_allot_9 : decode cX1_allot 9 = .ok (.getfield 15, 3) := by decide +kernel
theorem dX1_allot_12 : decode cX1_allot 12 = .ok (.aload_n 0, 1) := by decide +kernel
theorem dX1_allot_13 : decode cX1_allot 13 = .ok (.getfield 9, 3) := by decide +kernel
theorem dX1_allot_16 : decode cX1_allot 16 = .ok (.arraylength, 1) := by decide +kernel
theorem dX1_allot_17 : decode cX1_allot 17 = .ok (.if_icmp .lt 5, 3) := by decide +kernel
theorem dX1_allot_20 : decode cX1_allot 20 = .ok (.iconst (-1), 1) := by decide +kernel
theorem dX1_allot_21 : decode cX1_allot 21 = .ok (.ireturn, 1) := by decide +kernel
theorem dX1_allot_22 : decode cX1_allot 22 = .ok (.aload_n 0, 1) := by decide +kernel
theorem dX1_allot_23 : decode cX1_allot 23 = .ok (.getfield 15, 3) := by decide +kernel
theorem dX1_allot_26 : decode cX1_allot 26 = .ok (.istore_n 2, 1) := by decide +kernel
theorem dX1_allot_27 : decode cX1_allot 27 = .ok (.aload_n 0, 1) := by decide +kernel
theorem dX1_allot_28 : decode cX1_allot 28 = .ok (.getfield 9, 3) := by decide +kernel
theorem dX1_allot_31 : decode cX1_allot 31 = .ok (.iload_n 2, 1) := by decide +kernel
theorem dX1_allot_32 : decode cX1_allot 32 = .ok (.iload_n 1, 1) := by decide +kernel
theorem dX1_allot_33 : decode cX1_allot 33 = .ok (.iastore, 1) := by decide +kernel
theorem dX1_allot_34 : decode cX1_allot 34 = .ok (.aload_n 0, 1) := by decide +kernel
theorem dX1_allot_35 : decode cX1_allot 35 = .ok (.dup, 1) := by decide +kernel
theorem dX1_allot_36 : decode cX1_allot 36 = .ok (.getfield 19, 3) := by decide +kernel
theorem dX1_allot_39 : decode cX1_allot 39 = .ok (.iload_n 1, 1) := by decide +kernel
theorem dX1_allot_40 : decode cX1_allot 40 = .ok (.isub, 1) := by decide +kernel
theorem dX1_allot_41 : decode cX1_allot 41 = .ok (.putfield 19, 3) := by decide +kernel
theorem dX1_allot_44 : decode cX1_allot 44 = .ok (.aload_n 0, 1) := by decide +kernel
theorem dX1_allot_45 : decode cX1_allot 45 = .ok (.dup, 1) := by decide +kernel
theorem dX1_allot_46 : decode cX1_allot 46 = .ok (.getfield 15, 3) := by decide +kernel
theorem dX1_allot_49 : decode cX1_allot 49 = .ok (.iconst 1, 1) := by decide +kernel
theorem dX1_allot_50 : decode cX1_allot 50 = .ok (.iadd, 1) := by decide +kernel
theorem dX1_allot_51 : decode cX1_allot 51 = .ok (.putfield 15, 3) := by decide +kernel
theorem dX1_allot_54 : decode cX1_allot 54 = .ok (.iload_n 2, 1) := by decide +kernel
theorem dX1_allot_55 : decode cX1_allot 55 = .ok (.ireturn, 1) := by decide +kernel
theorem dX1_leftAt_0 : decode cX1_leftAt 0 = .ok (.iload_n 1, 1) := by decide +kernel
theorem dX1_leftAt_1 : decode cX1_leftAt 1 = .ok (.ifCond .lt 20, 3) := by decide +kernel
theorem dX1_leftAt_4 : decode cX1_leftAt 4 = .ok (.iload_n 1, 1) := by decide +kernel
theorem dX1_leftAt_5 : decode cX1_leftAt 5 = .ok (.aload_n 0, 1) := by decide +kernel
theorem dX1_leftAt_6 : decode cX1_leftAt 6 = .ok (.getfield 15, 3) := by decide +kernel
theorem dX1_leftAt_9 : decode cX1_leftAt 9 = .ok (.if_icmp .ge 12, 3) := by decide +kernel
theorem dX1_leftAt_12 : decode cX1_leftAt 12 = .ok (.iload_n 1, 1) := by decide +kernel
theorem dX1_leftAt_13 : decode cX1_leftAt 13 = .ok (.aload_n 0, 1) := by decide +kernel
theorem dX1_leftAt_14 : decode cX1_leftAt 14 = .ok (.getfield 9, 3) := by decide +kernel
theorem dX1_leftAt_17 : decode cX1_leftAt 17 = .ok (.arraylength, 1) := by decide +kernel
theorem dX1_leftAt_18 : decode cX1_leftAt 18 = .ok (.if_icmp .lt 5, 3) := by decide +kernel
theorem dX1_leftAt_21 : decode cX1_leftAt 21 = .ok (.iconst 0, 1) := by decide +kernel
theorem dX1_leftAt_22 : decode cX1_leftAt 22 = .ok (.ireturn, 1) := by decide +kernel
theorem dX1_leftAt_23 : decode cX1_leftAt 23 = .ok (.aload_n 0, 1) := by decide +kernel
theorem dX1_leftAt_24 : decode cX1_leftAt 24 = .ok (.getfield 9, 3) := by decide +kernel
theorem dX1_leftAt_27 : decode cX1_leftAt 27 = .ok (.iload_n 1, 1) := by decide +kernel
theorem dX1_leftAt_28 : decode cX1_leftAt 28 = .ok (.iaload, 1) := by decide +kernel
theorem dX1_leftAt_29 : decode cX1_leftAt 29 = .ok (.ireturn, 1) := by decide +kernel
theorem dX1_leftAheadOf_0 : decode cX1_leftAheadOf 0 = .ok (.iconst 0, 1) := by decide +kernel
theorem dX1_leftAheadOf_1 : decode cX1_leftAheadOf 1 = .ok (.istore_n 2, 1) := by decide +kernel
theorem dX1_leftAheadOf_2 : decode cX1_leftAheadOf 2 = .ok (.iconst 0, 1) := by decide +kernel
theorem dX1_leftAheadOf_3 : decode cX1_leftAheadOf 3 = .ok (.istore_n 3, 1) := by decide +kernel
theorem dX1_leftAheadOf_4 : decode cX1_leftAheadOf 4 = .ok (.iload_n 3, 1) := by decide +kernel
theorem dX1_leftAheadOf_5 : decode cX1_leftAheadOf 5 = .ok (.iload_n 1, 1) := by decide +kernel
theorem dX1_leftAheadOf_6 : decode cX1_leftAheadOf 6 = .ok (.if_icmp .ge 25, 3) := by decide +kernel
theorem dX1_leftAheadOf_9 : decode cX1_leftAheadOf 9 = .ok (.iload_n 3, 1) := by decide +kernel
theorem dX1_leftAheadOf_10 : decode cX1_leftAheadOf 10 = .ok (.aload_n 0, 1) := by decide +kernel
theorem dX1_leftAheadOf_11 : decode cX1_leftAheadOf 11 = .ok (.getfield 15, 3) := by decide +kernel
theorem dX1_leftAheadOf_14 : decode cX1_leftAheadOf 14 = .ok (.if_icmp .ge 17, 3) := by decide +kernel
theorem dX1_leftAheadOf_17 : decode cX1_leftAheadOf 17 = .ok (.iload_n 2, 1) := by decide +kernel
theorem dX1_leftAheadOf_18 : decode cX1_leftAheadOf 18 = .ok (.aload_n 0, 1) := by decide +kernel
theorem dX1_leftAheadOf_19 : decode cX1_leftAheadOf 19 = .ok (.iload_n 3, 1) := by decide +kernel
theorem dX1_leftAheadOf_20 : decode cX1_leftAheadOf 20 = .ok (.invokevirtual 22, 3) := by decide +kernel
theorem dX1_leftAheadOf_23 : decode cX1_leftAheadOf 23 = .ok (.iadd, 1) := by decide +kernel
theorem dX1_leftAheadOf_24 : decode cX1_leftAheadOf 24 = .ok (.istore_n 2, 1) := by decide +kernel
theorem dX1_leftAheadOf_25 : decode cX1_leftAheadOf 25 = .ok (.iinc 3 1, 3) := by decide +kernel
theorem dX1_leftAheadOf_28 : decode cX1_leftAheadOf 28 = .ok (.goto (-24), 3) := by decide +kernel
theorem dX1_leftAheadOf_31 : decode cX1_leftAheadOf 31 = .ok (.iload_n 2, 1) := by decide +kernel
theorem dX1_leftAheadOf_32 : decode cX1_leftAheadOf 32 = .ok (.ireturn, 1) := by decide +kernel
theorem dX1_firstPlace_0 : decode cX1_firstPlace 0 = .ok (.iconst 0, 1) := by decide +kernel
theorem dX1_firstPlace_1 : decode cX1_firstPlace 1 = .ok (.istore_n 1, 1) := by decide +kernel
theorem dX1_firstPlace_2 : decode cX1_firstPlace 2 = .ok (.iload_n 1, 1) := by decide +kernel
theorem dX1_firstPlace_3 : decode cX1_firstPlace 3 = .ok (.aload_n 0, 1) := by decide +kernel
theorem dX1_firstPlace_4 : decode cX1_firstPlace 4 = .ok (.getfield 15, 3) := by decide +kernel
theorem dX1_firstPlace_7 : decode cX1_firstPlace 7 = .ok (.if_icmp .ge 19, 3) := by decide +kernel
theorem dX1_firstPlace_10 : decode cX1_firstPlace 10 = .ok (.aload_n 0, 1) := by decide +kernel
theorem dX1_firstPlace_11 : decode cX1_firstPlace 11 = .ok (.iload_n 1, 1) := by decide +kernel
theorem dX1_firstPlace_12 : decode cX1_firstPlace 12 = .ok (.invokevirtual 22, 3) := by decide +kernel
theorem dX1_firstPlace_15 : decode cX1_firstPlace 15 = .ok (.ifCond .le 5, 3) := by decide +kernel
theorem dX1_firstPlace_18 : decode cX1_firstPlace 18 = .ok (.iload_n 1, 1) := by decide +kernel
theorem dX1_firstPlace_19 : decode cX1_firstPlace 19 = .ok (.ireturn, 1) := by decide +kernel
theorem dX1_firstPlace_20 : decode cX1_firstPlace 20 = .ok (.iinc 1 1, 3) := by decide +kernel
theorem dX1_firstPlace_23 : decode cX1_firstPlace 23 = .ok (.goto (-21), 3) := by decide +kernel
theorem dX1_firstPlace_26 : decode cX1_firstPlace 26 = .ok (.iconst (-1), 1) := by decide +kernel
theorem dX1_firstPlace_27 : decode cX1_firstPlace 27 = .ok (.ireturn, 1) := by decide +kernel
theorem dX1_lastPlace_0 : decode cX1_lastPlace 0 = .ok (.aload_n 0, 1) := by decide +kernel
theorem dX1_lastPlace_1 : decode cX1_lastPlace 1 = .ok (.getfield 15, 3) := by decide +kernel
theorem dX1_lastPlace_4 : decode cX1_lastPlace 4 = .ok (.iconst 1, 1) := by decide +kernel
theorem dX1_lastPlace_5 : decode cX1_lastPlace 5 = .ok (.isub, 1) := by decide +kernel
theorem dX1_lastPlace_6 : decode cX1_lastPlace 6 = .ok (.istore_n 1, 1) := by decide +kernel
theorem dX1_lastPlace_7 : decode cX1_lastPlace 7 = .ok (.iload_n 1, 1) := by decide +kernel
theorem dX1_lastPlace_8 : decode cX1_lastPlace 8 = .ok (.ifCond .lt 19, 3) := by decide +kernel
theorem dX1_lastPlace_11 : decode cX1_lastPlace 11 = .ok (.aload_n 0, 1) := by decide +kernel
theorem dX1_lastPlace_12 : decode cX1_lastPlace 12 = .ok (.iload_n 1, 1) := by decide +kernel
theorem dX1_lastPlace_13 : decode cX1_lastPlace 13 = .ok (.invokevirtual 22, 3) := by decide +kernel
theorem dX1_lastPlace_16 : decode cX1_lastPlace 16 = .ok (.ifCond .le 5, 3) := by decide +kernel
theorem dX1_lastPlace_19 : decode cX1_lastPlace 19 = .ok (.iload_n 1, 1) := by decide +kernel
theorem dX1_lastPlace_20 : decode cX1_lastPlace 20 = .ok (.ireturn, 1) := by decide +kernel
theorem dX1_lastPlace_21 : decode cX1_lastPlace 21 = .ok (.iinc 1 (-1), 3) := by decide +kernel
theorem dX1_lastPlace_24 : decode cX1_lastPlace 24 = .ok (.goto (-17), 3) := by decide +kernel
theorem dX1_lastPlace_27 : decode cX1_lastPlace 27 = .ok (.iconst (-1), 1) := by decide +kernel
theorem dX1_lastPlace_28 : decode cX1_lastPlace 28 = .ok (.ireturn, 1) := by decide +kernel
theorem dX1_takeFrom_0 : decode cX1_takeFrom 0 = .ok (.iload_n 1, 1) := by decide +kernel
theorem dX1_takeFrom_1 : decode cX1_takeFrom 1 = .ok (.ifCond .lt 31, 3) := by decide +kernel
theorem dX1_takeFrom_4 : decode cX1_takeFrom 4 = .ok (.iload_n 1, 1) := by decide +kernel
theorem dX1_takeFrom_5 : decode cX1_takeFrom 5 = .ok (.aload_n 0, 1) := by decide +kernel
theorem dX1_takeFrom_6 : decode cX1_takeFrom 6 = .ok (.getfield 9, 3) := by decide +kernel
theorem dX1_takeFrom_9 : decode cX1_takeFrom 9 = .ok (.arraylength, 1) := by decide +kernel
theorem dX1_takeFrom_10 : decode cX1_takeFrom 10 = .ok (.if_icmp .ge 22, 3) := by decide +kernel
theorem dX1_takeFrom_13 : decode cX1_takeFrom 13 = .ok (.aload_n 0, 1) := by decide +kernel
theorem dX1_takeFrom_14 : decode cX1_takeFrom 14 = .ok (.getfield 9, 3) := by decide +kernel
theorem dX1_takeFrom_17 : decode cX1_takeFrom 17 = .ok (.iload_n 1, 1) := by decide +kernel
theorem dX1_takeFrom_18 : decode cX1_takeFrom 18 = .ok (.iaload, 1) := by decide +kernel
theorem dX1_takeFrom_19 : decode cX1_takeFrom 19 = .ok (.ifCond .le 13, 3) := by decide +kernel
theorem dX1_takeFrom_22 : decode cX1_takeFrom 22 = .ok (.aload_n 0, 1) := by decide +kernel
theorem dX1_takeFrom_23 : decode cX1_takeFrom 23 = .ok (.getfield 9, 3) := by decide +kernel
theorem dX1_takeFrom_26 : decode cX1_takeFrom 26 = .ok (.iload_n 1, 1) := by decide +kernel
theorem dX1_takeFrom_27 : decode cX1_takeFrom 27 = .ok (.dup2, 1) := by decide +kernel
theorem dX1_takeFrom_28 : decode cX1_takeFrom 28 = .ok (.iaload, 1) := by decide +kernel
theorem dX1_takeFrom_29 : decode cX1_takeFrom 29 = .ok (.iconst 1, 1) := by decide +kernel
theorem dX1_takeFrom_30 : decode cX1_takeFrom 30 = .ok (.isub, 1) := by decide +kernel
theorem dX1_takeFrom_31 : decode cX1_takeFrom 31 = .ok (.iastore, 1) := by decide +kernel
theorem dX1_takeFrom_32 : decode cX1_takeFrom 32 = .ok (.return_, 1) := by decide +kernel
theorem dX1_follow_0 : decode cX1_follow 0 = .ok (.iload_n 1, 1) := by decide +kernel
theorem dX1_follow_1 : decode cX1_follow 1 = .ok (.bipush 100, 2) := by decide +kernel
theorem dX1_follow_3 : decode cX1_follow 3 = .ok (.if_icmp .eq 9, 3) := by decide +kernel
theorem dX1_follow_6 : decode cX1_follow 6 = .ok (.iload_n 1, 1) := by decide +kernel
theorem dX1_follow_7 : decode cX1_follow 7 = .ok (.bipush 109, 2) := by decide +kernel
theorem dX1_follow_9 : decode cX1_follow 9 = .ok (.if_icmp .ne 11, 3) := by decide +kernel
theorem dX1_follow_12 : decode cX1_follow 12 = .ok (.aload_n 0, 1) := by decide +kernel
theorem dX1_follow_13 : decode cX1_follow 13 = .ok (.aload_n 0, 1) := by decide +kernel
theorem dX1_follow_14 : decode cX1_follow 14 = .ok (.invokevirtual 26, 3) := by decide +kernel
theorem dX1_follow_17 : decode cX1_follow 17 = .ok (.invokevirtual 30, 3) := by decide +kernel
theorem dX1_follow_20 : decode cX1_follow 20 = .ok (.iload_n 1, 1) := by decide +kernel
theorem dX1_follow_21 : decode cX1_follow 21 = .ok (.bipush 108, 2) := by decide +kernel
theorem dX1_follow_23 : decode cX1_follow 23 = .ok (.if_icmp .ne 8, 3) := by decide +kernel
theorem dX1_follow_26 : decode cX1_follow 26 = .ok (.aload_n 0, 1) := by decide +kernel
theorem dX1_follow_27 : decode cX1_follow 27 = .ok (.invokevirtual 34, 3) := by decide +kernel
theorem dX1_follow_30 : decode cX1_follow 30 = .ok (.ireturn, 1) := by decide +kernel
theorem dX1_follow_31 : decode cX1_follow 31 = .ok (.iconst (-1), 1) := by decide +kernel
theorem dX1_follow_32 : decode cX1_follow 32 = .ok (.ireturn, 1) := by decide +kernel
theorem dX1_lose_0 : decode cX1_lose 0 = .ok (.aload_n 0, 1) := by decide +kernel
theorem dX1_lose_1 : decode cX1_lose 1 = .ok (.getfield 19, 3) := by decide +kernel
theorem dX1_lose_4 : decode cX1_lose 4 = .ok (.ifCond .le 15, 3) := by decide +kernel
theorem dX1_lose_7 : decode cX1_lose 7 = .ok (.aload_n 0, 1) := by decide +kernel
theorem dX1_lose_8 : decode cX1_lose 8 = .ok (.dup, 1) := by decide +kernel
theorem dX1_lose_9 : decode cX1_lose 9 = .ok (.getfield 19, 3) := by decide +kernel
theorem dX1_lose_12 : decode cX1_lose 12 = .ok (.iconst 1, 1) := by decide +kernel
theorem dX1_lose_13 : decode cX1_lose 13 = .ok (.isub, 1) := by decide +kernel
theorem dX1_lose_14 : decode cX1_lose 14 = .ok (.putfield 19, 3) := by decide +kernel
theorem dX1_lose_17 : decode cX1_lose 17 = .ok (.iconst (-1), 1) := by decide +kernel
theorem dX1_lose_18 : decode cX1_lose 18 = .ok (.ireturn, 1) := by decide +kernel
theorem dX1_lose_19 : decode cX1_lose 19 = .ok (.aload_n 0, 1) := by decide +kernel
theorem dX1_lose_20 : decode cX1_lose 20 = .ok (.invokevirtual 37, 3) := by decide +kernel
theorem dX1_lose_23 : decode cX1_lose 23 = .ok (.istore_n 1, 1) := by decide +kernel
theorem dX1_lose_24 : decode cX1_lose 24 = .ok (.aload_n 0, 1) := by decide +kernel
theorem dX1_lose_25 : decode cX1_lose 25 = .ok (.iload_n 1, 1) := by decide +kernel
theorem dX1_lose_26 : decode cX1_lose 26 = .ok (.invokevirtual 30, 3) := by decide +kernel
theorem dX1_lose_29 : decode cX1_lose 29 = .ok (.iload_n 1, 1) := by decide +kernel
theorem dX1_lose_30 : decode cX1_lose 30 = .ok (.ireturn, 1) := by decide +kernel
theorem dX2_init_0 : decode cX2_init 0 = .ok (.aload_n 0, 1) := by decide +kernel
theorem dX2_init_1 : decode cX2_init 1 = .ok (.invokespecial 3, 3) := by decide +kernel
theorem dX2_init_4 : decode cX2_init 4 = .ok (.aload_n 0, 1) := by decide +kernel
theorem dX2_init_5 : decode cX2_init 5 = .ok (.iconst (-1), 1) := by decide +kernel
theorem dX2_init_6 : decode cX2_init 6 = .ok (.putfield 9, 3) := by decide +kernel
theorem dX2_init_9 : decode cX2_init 9 = .ok (.aload_n 0, 1) := by decide +kernel
theorem dX2_init_10 : decode cX2_init 10 = .ok (.iconst (-1), 1) := by decide +kernel
theorem dX2_init_11 : decode cX2_init 11 = .ok (.putfield 15, 3) := by decide +kernel
theorem dX2_init_14 : decode cX2_init 14 = .ok (.aload_n 0, 1) := by decide +kernel
theorem dX2_init_15 : decode cX2_init 15 = .ok (.bipush 114, 2) := by decide +kernel
theorem dX2_init_17 : decode cX2_init 17 = .ok (.putfield 18, 3) := by decide +kernel
theorem dX2_init_20 : decode cX2_init 20 = .ok (.aload_n 0, 1) := by decide +kernel
theorem dX2_init_21 : decode cX2_init 21 = .ok (.iconst 0, 1) := by decide +kernel
theorem dX2_init_22 : decode cX2_init 22 = .ok (.putfield 22, 3) := by decide +kernel
theorem dX2_init_25 : decode cX2_init 25 = .ok (.aload_n 0, 1) := by decide +kernel
theorem dX2_init_26 : decode cX2_init 26 = .ok (.iconst 0, 1) := by decide +kernel
theorem dX2_init_27 : decode cX2_init 27 = .ok (.putfield 25, 3) := by decide +kernel
theorem dX2_init_30 : decode cX2_init 30 = .ok (.aload_n 0, 1) := by decide +kernel
theorem dX2_init_31 : decode cX2_init 31 = .ok (.iconst 0, 1) := by decide +kernel
theorem dX2_init_32 : decode cX2_init 32 = .ok (.putfield 28, 3) := by decide +kernel
theorem dX2_init_35 : decode cX2_init 35 = .ok (.aload_n 0, 1) := by decide +kernel
theorem dX2_init_36 : decode cX2_init 36 = .ok (.iconst 0, 1) := by decide +kernel
theorem dX2_init_37 : decode cX2_init 37 = .ok (.putfield 31, 3) := by decide +kernel
theorem dX2_init_40 : decode cX2_init 40 = .ok (.aload_n 0, 1) := by decide +kernel
theorem dX2_init_41 : decode cX2_init 41 = .ok (.iload_n 1, 1) := by decide +kernel
theorem dX2_init_42 : decode cX2_init 42 = .ok (.putfield 34, 3) := by decide +kernel
theorem dX2_init_45 : decode cX2_init 45 = .ok (.aload_n 0, 1) := by decide +kernel
theorem dX2_init_46 : decode cX2_init 46 = .ok (.aload_n 2, 1) := by decide +kernel
theorem dX2_init_47 : decode cX2_init 47 = .ok (.putfield 37, 3) := by decide +kernel
theorem dX2_init_50 : decode cX2_init 50 = .ok (.aload_n 0, 1) := by decide +kernel
theorem dX2_init_51 : decode cX2_init 51 = .ok (.iload_n 3, 1) := by decide +kernel
theorem dX2_init_52 : decode cX2_init 52 = .ok (.putfield 41, 3) := by decide +kernel
theorem dX2_init_55 : decode cX2_init 55 = .ok (.aload_n 0, 1) := by decide +kernel
theorem dX2_init_56 : decode cX2_init 56 = .ok (.iload 4, 2) := by decide +kernel
theorem dX2_init_58 : decode cX2_init 58 = .ok (.putfield 44, 3) := by decide +kernel
theorem dX2_init_61 : decode cX2_init 61 = .ok (.aload_n 0, 1) := by decide +kernel
theorem dX2_init_62 : decode cX2_init 62 = .ok (.iload 5, 2) := by decide +kernel
theorem dX2_init_64 : decode cX2_init 64 = .ok (.putfield 47, 3) := by decide +kernel
theorem dX2_init_67 : decode cX2_init 67 = .ok (.aload_n 0, 1) := by decide +kernel
theorem dX2_init_68 : decode cX2_init 68 = .ok (.iload 6, 2) := by decide +kernel
theorem dX2_init_70 : decode cX2_init 70 = .ok (.putfield 50, 3) := by decide +kernel
theorem dX2_init_73 : decode cX2_init 73 = .ok (.return_, 1) := by decide +kernel
theorem dX2_hasSample_0 : decode cX2_hasSample 0 = .ok (.aload_n 0, 1) := by decide +kernel
theorem dX2_hasSample_1 : decode cX2_hasSample 1 = .ok (.getfield 15, 3) := by decide +kernel
theorem dX2_hasSample_4 : decode cX2_hasSample 4 = .ok (.iconst (-1), 1) := by decide +kernel
theorem dX2_hasSample_5 : decode cX2_hasSample 5 = .ok (.if_icmp .eq 7, 3) := by decide +kernel
theorem dX2_hasSample_8 : decode cX2_hasSample 8 = .ok (.iconst 1, 1) := by decide +kernel
theorem dX2_hasSample_9 : decode cX2_hasSample 9 = .ok (.goto 4, 3) := by decide +kernel
theorem dX2_hasSample_12 : decode cX2_hasSample 12 = .ok (.iconst 0, 1) := by decide +kernel
theorem dX2_hasSample_13 : decode cX2_hasSample 13 = .ok (.ireturn, 1) := by decide +kernel
theorem dX2_isCold_0 : decode cX2_isCold 0 = .ok (.aload_n 0, 1) := by decide +kernel
theorem dX2_isCold_1 : decode cX2_isCold 1 = .ok (.invokevirtual 53, 3) := by decide +kernel
theorem dX2_isCold_4 : decode cX2_isCold 4 = .ok (.ifCond .eq 16, 3) := by decide +kernel
theorem dX2_isCold_7 : decode cX2_isCold 7 = .ok (.aload_n 0, 1) := by decide +kernel
theorem dX2_isCold_8 : decode cX2_isCold 8 = .ok (.getfield 18, 3) := by decide +kernel
theorem dX2_isCold_11 : decode cX2_isCold 11 = .ok (.bipush 99, 2) := by decide +kernel
theorem dX2_isCold_13 : decode cX2_isCold 13 = .ok (.if_icmp .ne 7, 3) := by decide +kernel
theorem dX2_isCold_16 : decode cX2_isCold 16 = .ok (.iconst 1, 1) := by decide +kernel
theorem dX2_isCold_17 : decode cX2_isCold 17 = .ok (.goto 4, 3) := by decide +kernel
theorem dX2_isCold_20 : decode cX2_isCold 20 = .ok (.iconst 0, 1) := by decide +kernel
theorem dX2_isCold_21 : decode cX2_isCold 21 = .ok (.ireturn, 1) := by decide +kernel
theorem dX2_hasGoodSampleAtBeamline_0 : decode cX2_hasGoodSampleAtBeamline 0 = .ok (.aload_n 0, 1) := by decide +kernel
theorem dX2_hasGoodSampleAtBeamline_1 : decode cX2_hasGoodSampleAtBeamline 1 = .ok (.getfield 15, 3) := by decide +kernel
theorem dX2_hasGoodSampleAtBeamline_4 : decode cX2_hasGoodSampleAtBeamline 4 = .ok (.ifCond .le 16, 3) := by decide +kernel
theorem dX2_hasGoodSampleAtBeamline_7 : decode cX2_hasGoodSampleAtBeamline 7 = .ok (.aload_n 0, 1) := by decide +kernel
theorem dX2_hasGoodSampleAtBeamline_8 : decode cX2_hasGoodSampleAtBeamline 8 = .ok (.getfield 18, 3) := by decide +kernel
theorem dX2_hasGoodSampleAtBeamline_11 : decode cX2_hasGoodSampleAtBeamline 11 = .ok (.bipush 98, 2) := by decide +kernel
theorem dX2_hasGoodSampleAtBeamline_13 : decode cX2_hasGoodSampleAtBeamline 13 = .ok (.if_icmp .ne 7, 3) := by decide +kernel
theorem dX2_hasGoodSampleAtBeamline_16 : decode cX2_hasGoodSampleAtBeamline 16 = .ok (.iconst 1, 1) := by decide +kernel
theorem dX2_hasGoodSampleAtBeamline_17 : decode cX2_hasGoodSampleAtBeamline 17 = .ok (.goto 4, 3) := by decide +kernel
theorem dX2_hasGoodSampleAtBeamline_20 : decode cX2_hasGoodSampleAtBeamline 20 = .ok (.iconst 0, 1) := by decide +kernel
theorem dX2_hasGoodSampleAtBeamline_21 : decode cX2_hasGoodSampleAtBeamline 21 = .ok (.ireturn, 1) := by decide +kernel
theorem dX2_ageSample_0 : decode cX2_ageSample 0 = .ok (.aload_n 0, 1) := by decide +kernel
theorem dX2_ageSample_1 : decode cX2_ageSample 1 = .ok (.getfield 15, 3) := by decide +kernel
theorem dX2_ageSample_4 : decode cX2_ageSample 4 = .ok (.ifCond .le 22, 3) := by decide +kernel
theorem dX2_ageSample_7 : decode cX2_ageSample 7 = .ok (.aload_n 0, 1) := by decide +kernel
theorem dX2_ageSample_8 : decode cX2_ageSample 8 = .ok (.getfield 18, 3) := by decide +kernel
theorem dX2_ageSample_11 : decode cX2_ageSample 11 = .ok (.bipush 99, 2) := by decide +kernel
theorem dX2_ageSample_13 : decode cX2_ageSample 13 = .ok (.if_icmp .eq 13, 3) := by decide +kernel
theorem dX2_ageSample_16 : decode cX2_ageSample 16 = .ok (.aload_n 0, 1) := by decide +kernel
theorem dX2_ageSample_17 : decode cX2_ageSample 17 = .ok (.dup, 1) := by decide +kernel
theorem dX2_ageSample_18 : decode cX2_ageSample 18 = .ok (.getfield 15, 3) := by decide +kernel
theorem dX2_ageSample_21 : decode cX2_ageSample 21 = .ok (.iconst 1, 1) := by decide +kernel
theorem dX2_ageSample_22 : decode cX2_ageSample 22 = .ok (.isub, 1) := by decide +kernel
theorem dX2_ageSample_23 : decode cX2_ageSample 23 = .ok (.putfield 15, 3) := by decide +kernel
theorem dX2_ageSample_26 : decode cX2_ageSample 26 = .ok (.return_, 1) := by decide +kernel
theorem dX2_countShift_0 : decode cX2_countShift 0 = .ok (.iload_n 1, 1) := by decide +kernel
theorem dX2_countShift_1 : decode cX2_countShift 1 = .ok (.bipush 100, 2) := by decide +kernel
theorem dX2_countShift_3 : decode cX2_countShift 3 = .ok (.if_icmp .ne 16, 3) := by decide +kernel
theorem dX2_countShift_6 : decode cX2_countShift 6 = .ok (.aload_n 0, 1) := by decide +kernel
theorem dX2_countShift_7 : decode cX2_countShift 7 = .ok (.dup, 1) := by decide +kernel
theorem dX2_countShift_8 : decode cX2_countShift 8 = .ok (.getfield 22, 3) := by decide +kernel
theorem dX2_countShift_11 : decode cX2_countShift 11 = .ok (.iconst 1, 1) := by decide +kernel
theorem dX2_countShift_12 : decode cX2_countShift 12 = .ok (.iadd, 1) := by decide +kernel
theorem dX2_countShift_13 : decode cX2_countShift 13 = .ok (.putfield 22, 3) := by decide +kernel
theorem dX2_countShift_16 : decode cX2_countShift 16 = .ok (.goto 38, 3) := by decide +kernel
theorem dX2_countShift_19 : decode cX2_countShift 19 = .ok (.iload_n 1, 1) := by decide +kernel
theorem dX2_countShift_20 : decode cX2_countShift 20 = .ok (.bipush 109, 2) := by decide +kernel
theorem dX2_countShift_22 : decode cX2_countShift 22 = .ok (.if_icmp .ne 16, 3) := by decide +kernel
theorem dX2_countShift_25 : decode cX2_countShift 25 = .ok (.aload_n 0, 1) := by decide +kernel
theorem dX2_countShift_26 : decode cX2_countShift 26 = .ok (.dup, 1) := by decide +kernel
theorem dX2_countShift_27 : decode cX2_countShift 27 = .ok (.getfield 25, 3) := by decide +kernel
theorem dX2_countShift_30 : decode cX2_countShift 30 = .ok (.iconst 1, 1) := by decide +kernel
theorem dX2_countShift_31 : decode cX2_countShift 31 = .ok (.iadd, 1) := by decide +kernel
theorem dX2_countShift_32 : decode cX2_countShift 32 = .ok (.putfield 25, 3) := by decide +kernel
theorem dX2_countShift_35 : decode cX2_countShift 35 = .ok (.goto 19, 3) := by decide +kernel
theorem dX2_countShift_38 : decode cX2_countShift 38 = .ok (.iload_n 1, 1) := by decide +kernel
theorem dX2_countShift_39 : decode cX2_countShift 39 = .ok (.bipush 108, 2) := by decide +kernel
theorem dX2_countShift_41 : decode cX2_countShift 41 = .ok (.if_icmp .ne 13, 3) := by decide +kernel
theorem dX2_countShift_44 : decode cX2_countShift 44 = .ok (.aload_n 0, 1) := by decide +kernel
theorem dX2_countShift_45 : decode cX2_countShift 45 = .ok (.dup, 1) := by decide +kernel
theorem dX2_countShift_46 : decode cX2_countShift 46 = .ok (.getfield 28, 3) := by decide +kernel
theorem dX2_countShift_49 : decode cX2_countShift 49 = .ok (.iconst 1, 1) := by decide +kernel
theorem dX2_countShift_50 : decode cX2_countShift 50 = .ok (.iadd, 1) := by decide +kernel
theorem dX2_countShift_51 : decode cX2_countShift 51 = .ok (.putfield 28, 3) := by decide +kernel
theorem dX2_countShift_54 : decode cX2_countShift 54 = .ok (.return_, 1) := by decide +kernel
theorem dX3_init_0 : decode cX3_init 0 = .ok (.aload_n 0, 1) := by decide +kernel
theorem dX3_init_1 : decode cX3_init 1 = .ok (.invokespecial 1, 3) := by decide +kernel
theorem dX3_init_4 : decode cX3_init 4 = .ok (.aload_n 0, 1) := by decide +kernel
theorem dX3_init_5 : decode cX3_init 5 = .ok (.new 7, 3) := by decide +kernel
theorem dX3_init_8 : decode cX3_init 8 = .ok (.dup, 1) := by decide +kernel
theorem dX3_init_9 : decode cX3_init 9 = .ok (.invokespecial 9, 3) := by decide +kernel
theorem dX3_init_12 : decode cX3_init 12 = .ok (.putfield 10, 3) := by decide +kernel
theorem dX3_init_15 : decode cX3_init 15 = .ok (.aload_n 0, 1) := by decide +kernel
theorem dX3_init_16 : decode cX3_init 16 = .ok (.new 7, 3) := by decide +kernel
theorem dX3_init_19 : decode cX3_init 19 = .ok (.dup, 1) := by decide +kernel
theorem dX3_init_20 : decode cX3_init 20 = .ok (.invokespecial 9, 3) := by decide +kernel
theorem dX3_init_23 : decode cX3_init 23 = .ok (.putfield 16, 3) := by decide +kernel
theorem dX3_init_26 : decode cX3_init 26 = .ok (.aload_n 0, 1) := by decide +kernel
theorem dX3_init_27 : decode cX3_init 27 = .ok (.bipush 10, 2) := by decide +kernel
theorem dX3_init_29 : decode cX3_init 29 = .ok (.newarray .boolean, 2) := by decide +kernel
theorem dX3_init_31 : decode cX3_init 31 = .ok (.putfield 19, 3) := by decide +kernel
theorem dX3_init_34 : decode cX3_init 34 = .ok (.aload_n 0, 1) := by decide +kernel
theorem dX3_init_35 : decode cX3_init 35 = .ok (.bipush 10, 2) := by decide +kernel
theorem dX3_init_37 : decode cX3_init 37 = .ok (.newarray .boolean, 2) := by decide +kernel
theorem dX3_init_39 : decode cX3_init 39 = .ok (.putfield 23, 3) := by decide +kernel
theorem dX3_init_42 : decode cX3_init 42 = .ok (.aload_n 0, 1) := by decide +kernel
theorem dX3_init_43 : decode cX3_init 43 = .ok (.iconst 0, 1) := by decide +kernel
theorem dX3_init_44 : decode cX3_init 44 = .ok (.putfield 26, 3) := by decide +kernel
theorem dX3_init_47 : decode cX3_init 47 = .ok (.return_, 1) := by decide +kernel
theorem dX3_addBeamline_0 : decode cX3_addBeamline 0 = .ok (.iload_n 1, 1) := by decide +kernel
theorem dX3_addBeamline_1 : decode cX3_addBeamline 1 = .ok (.iconst 3, 1) := by decide +kernel
theorem dX3_addBeamline_2 : decode cX3_addBeamline 2 = .ok (.bipush 40, 2) := by decide +kernel
theorem dX3_addBeamline_4 : decode cX3_addBeamline 4 = .ok (.invokestatic 30, 3) := by decide +kernel
theorem dX3_addBeamline_7 : decode cX3_addBeamline 7 = .ok (.ifCond .ne 13, 3) := by decide +kernel
theorem dX3_addBeamline_10 : decode cX3_addBeamline 10 = .ok (.new 34, 3) := by decide +kernel
theorem dX3_addBeamline_13 : decode cX3_addBeamline 13 = .ok (.dup, 1) := by decide +kernel
theorem dX3_addBeamline_14 : decode cX3_addBeamline 14 = .ok (.ldc 36, 2) := by decide +kernel
theorem dX3_addBeamline_16 : decode cX3_addBeamline 16 = .ok (.invokespecial 38, 3) := by decide +kernel
theorem dX3_addBeamline_19 : decode cX3_addBeamline 19 = .ok (.athrow, 1) := by decide +kernel
theorem dX3_addBeamline_20 : decode cX3_addBeamline 20 = .ok (.iload_n 2, 1) := by decide +kernel
theorem dX3_addBeamline_21 : decode cX3_addBeamline 21 = .ok (.bipush 10, 2) := by decide +kernel
theorem dX3_addBeamline_23 : decode cX3_addBeamline 23 = .ok (.sipush 999, 3) := by decide +kernel
theorem dX3_addBeamline_26 : decode cX3_addBeamline 26 = .ok (.invokestatic 30, 3) := by decide +kernel
theorem dX3_addBeamline_29 : decode cX3_addBeamline 29 = .ok (.ifCond .ne 13, 3) := by decide +kernel
theorem dX3_addBeamline_32 : decode cX3_addBeamline 32 = .ok (.new 34, 3) := by decide +kernel
theorem dX3_addBeamline_35 : decode cX3_addBeamline 35 = .ok (.dup, 1) := by decide +kernel
theorem dX3_addBeamline_36 : decode cX3_addBeamline 36 = .ok (.ldc 41, 2) := by decide +kernel
theorem dX3_addBeamline_38 : decode cX3_addBeamline 38 = .ok (.invokespecial 38, 3) := by decide +kernel
theorem dX3_addBeamline_41 : decode cX3_addBeamline 41 = .ok (.athrow, 1) := by decide +kernel
theorem dX3_addBeamline_42 : decode cX3_addBeamline 42 = .ok (.aload_n 0, 1) := by decide +kernel
theorem dX3_addBeamline_43 : decode cX3_addBeamline 43 = .ok (.getfield 10, 3) := by decide +kernel
theorem dX3_addBeamline_46 : decode cX3_addBeamline 46 = .ok (.invokevirtual 43, 3) := by decide +kernel
theorem dX3_addBeamline_49 : decode cX3_addBeamline 49 = .ok (.iconst 2, 1) := by decide +kernel
theorem dX3_addBeamline_50 : decode cX3_addBeamline 50 = .ok (.if_icmp .lt 13, 3) := by decide +kernel
theorem dX3_addBeamline_53 : decode cX3_addBeamline 53 = .ok (.new 47, 3) := by decide +kernel
theorem dX3_addBeamline_56 : decode cX3_addBeamline 56 = .ok (.dup, 1) := by decide +kernel
theorem dX3_addBeamline_57 : decode cX3_addBeamline 57 = .ok (.ldc 49, 2) := by decide +kernel
theorem dX3_addBeamline_59 : decode cX3_addBeamline 59 = .ok (.invokespecial 51, 3) := by decide +kernel
theorem dX3_addBeamline_62 : decode cX3_addBeamline 62 = .ok (.athrow, 1) := by decide +kernel
theorem dX3_addBeamline_63 : decode cX3_addBeamline 63 = .ok (.aload_n 0, 1) := by decide +kernel
theorem dX3_addBeamline_64 : decode cX3_addBeamline 64 = .ok (.getfield 10, 3) := by decide +kernel
theorem dX3_addBeamline_67 : decode cX3_addBeamline 67 = .ok (.new 52, 3) := by decide +kernel
theorem dX3_addBeamline_70 : decode cX3_addBeamline 70 = .ok (.dup, 1) := by decide +kernel
theorem dX3_addBeamline_71 : decode cX3_addBeamline 71 = .ok (.iload_n 1, 1) := by decide +kernel
theorem dX3_addBeamline_72 : decode cX3_addBeamline 72 = .ok (.iload_n 2, 1) := by decide +kernel
theorem dX3_addBeamline_73 : decode cX3_addBeamline 73 = .ok (.invokespecial 54, 3) := by decide +kernel
theorem dX3_addBeamline_76 : decode cX3_addBeamline 76 = .ok (.invokevirtual 57, 3) := by decide +kernel
theorem dX3_addBeamline_79 : decode cX3_addBeamline 79 = .ok (.pop, 1) := by decide +kernel
theorem dX3_addBeamline_80 : decode cX3_addBeamline 80 = .ok (.aload_n 0, 1) := by decide +kernel
theorem dX3_addBeamline_81 : decode cX3_addBeamline 81 = .ok (.getfield 10, 3) := by decide +kernel
theorem dX3_addBeamline_84 : decode cX3_addBeamline 84 = .ok (.invokevirtual 43, 3) := by decide +kernel
theorem dX3_addBeamline_87 : decode cX3_addBeamline 87 = .ok (.iconst 1, 1) := by decide +kernel
theorem dX3_addBeamline_88 : decode cX3_addBeamline 88 = .ok (.isub, 1) := by decide +kernel
theorem dX3_addBeamline_89 : decode cX3_addBeamline 89 = .ok (.ireturn, 1) := by decide +kernel
theorem dX3_setRate_0 : decode cX3_setRate 0 = .ok (.aload_n 0, 1) := by decide +kernel
theorem dX3_setRate_1 : decode cX3_setRate 1 = .ok (.iload_n 1, 1) := by decide +kernel
theorem dX3_setRate_2 : decode cX3_setRate 2 = .ok (.invokevirtual 61, 3) := by decide +kernel
theorem dX3_setRate_5 : decode cX3_setRate 5 = .ok (.astore_n 3, 1) := by decide +kernel
theorem dX3_setRate_6 : decode cX3_setRate 6 = .ok (.iload_n 2, 1) := by decide +kernel
theorem dX3_setRate_7 : decode cX3_setRate 7 = .ok (.iconst 0, 1) := by decide +kernel
theorem dX3_setRate_8 : decode cX3_setRate 8 = .ok (.bipush 99, 2) := by decide +kernel
theorem dX3_setRate_10 : decode cX3_setRate 10 = .ok (.invokestatic 30, 3) := by decide +kernel
theorem dX3_setRate_13 : decode cX3_setRate 13 = .ok (.ifCond .ne 13, 3) := by decide +kernel
theorem dX3_setRate_16 : decode cX3_setRate 16 = .ok (.new 34, 3) := by decide +kernel
theorem dX3_setRate_19 : decode cX3_setRate 19 = .ok (.dup, 1) := by decide +kernel
theorem dX3_setRate_20 : decode cX3_setRate 20 = .ok (.ldc 65, 2) := by decide +kernel
theorem dX3_setRate_22 : decode cX3_setRate 22 = .ok (.invokespecial 38, 3) := by decide +kernel
theorem dX3_setRate_25 : decode cX3_setRate 25 = .ok (.athrow, 1) := by decide +kernel
theorem dX3_setRate_26 : decode cX3_setRate 26 = .ok (.aload_n 3, 1) := by decide +kernel
theorem dX3_setRate_27 : decode cX3_setRate 27 = .ok (.getfield 67, 3) := by decide +kernel
theorem dX3_setRate_30 : decode cX3_setRate 30 = .ok (.istore 4, 2) := by decide +kernel
theorem dX3_setRate_32 : decode cX3_setRate 32 = .ok (.aload_n 3, 1) := by decide +kernel
theorem dX3_setRate_33 : decode cX3_setRate 33 = .ok (.iload_n 2, 1) := by decide +kernel
theorem dX3_setRate_34 : decode cX3_setRate 34 = .ok (.putfield 67, 3) := by decide +kernel
theorem dX3_setRate_37 : decode cX3_setRate 37 = .ok (.iload 4, 2) := by decide +kernel
theorem dX3_setRate_39 : decode cX3_setRate 39 = .ok (.ireturn, 1) := by decide +kernel
theorem dX3_propose_0 : decode cX3_propose 0 = .ok (.aload_n 0, 1) := by decide +kernel
theorem dX3_propose_1 : decode cX3_propose 1 = .ok (.iload_n 1, 1) := by decide +kernel
theorem dX3_propose_2 : decode cX3_propose 2 = .ok (.invokevirtual 61, 3) := by decide +kernel
theorem dX3_propose_5 : decode cX3_propose 5 = .ok (.astore 6, 2) := by decide +kernel
theorem dX3_propose_7 : decode cX3_propose 7 = .ok (.iload_n 2, 1) := by decide +kernel
theorem dX3_propose_8 : decode cX3_propose 8 = .ok (.iconst 0, 1) := by decide +kernel
theorem dX3_propose_9 : decode cX3_propose 9 = .ok (.bipush 9, 2) := by decide +kernel
theorem dX3_propose_11 : decode cX3_propose 11 = .ok (.invokestatic 30, 3) := by decide +kernel
theorem dX3_propose_14 : decode cX3_propose 14 = .ok (.ifCond .ne 13, 3) := by decide +kernel
theorem dX3_propose_17 : decode cX3_propose 17 = .ok (.new 34, 3) := by decide +kernel
theorem dX3_propose_20 : decode cX3_propose 20 = .ok (.dup, 1) := by decide +kernel
theorem dX3_propose_21 : decode cX3_propose 21 = .ok (.ldc 70, 2) := by decide +kernel
theorem dX3_propose_23 : decode cX3_propose 23 = .ok (.invokespecial 38, 3) := by decide +kernel
theorem dX3_propose_26 : decode cX3_propose 26 = .ok (.athrow, 1) := by decide +kernel
theorem dX3_propose_27 : decode cX3_propose 27 = .ok (.iload_n 3, 1) := by decide +kernel
theorem dX3_propose_28 : decode cX3_propose 28 = .ok (.iconst 0, 1) := by decide +kernel
theorem dX3_propose_29 : decode cX3_propose 29 = .ok (.bipush 100, 2) := by decide +kernel
theorem dX3_propose_31 : decode cX3_propose 31 = .ok (.invokestatic 30, 3) := by decide +kernel
theorem dX3_propose_34 : decode cX3_propose 34 = .ok (.ifCond .ne 13, 3) := by decide +kernel
theorem dX3_propose_37 : decode cX3_propose 37 = .ok (.new 34, 3) := by decide +kernel
theorem dX3_propose_40 : decode cX3_propose 40 = .ok (.dup, 1) := by decide +kernel
theorem dX3_propose_41 : decode cX3_propose 41 = .ok (.ldc 72, 2) := by decide +kernel
theorem dX3_propose_43 : decode cX3_propose 43 = .ok (.invokespecial 38, 3) := by decide +kernel
theorem dX3_propose_46 : decode cX3_propose 46 = .ok (.athrow, 1) := by decide +kernel
theorem dX3_propose_47 : decode cX3_propose 47 = .ok (.iload 4, 2) := by decide +kernel
theorem dX3_propose_49 : decode cX3_propose 49 = .ok (.iconst 1, 1) := by decide +kernel
theorem dX3_propose_50 : decode cX3_propose 50 = .ok (.bipush 9, 2) := by decide +kernel
theorem dX3_propose_52 : decode cX3_propose 52 = .ok (.invokestatic 30, 3) := by decide +kernel
theorem dX3_propose_55 : decode cX3_propose 55 = .ok (.ifCond .ne 13, 3) := by decide +kernel
theorem dX3_propose_58 : decode cX3_propose 58 = .ok (.new 34, 3) := by decide +kernel
theorem dX3_propose_61 : decode cX3_propose 61 = .ok (.dup, 1) := by decide +kernel
theorem dX3_propose_62 : decode cX3_propose 62 = .ok (.ldc 74, 2) := by decide +kernel
theorem dX3_propose_64 : decode cX3_propose 64 = .ok (.invokespecial 38, 3) := by decide +kernel
theorem dX3_propose_67 : decode cX3_propose 67 = .ok (.athrow, 1) := by decide +kernel
theorem dX3_propose_68 : decode cX3_propose 68 = .ok (.iload 5, 2) := by decide +kernel
theorem dX3_propose_70 : decode cX3_propose 70 = .ok (.iconst 0, 1) := by decide +kernel
theorem dX3_propose_71 : decode cX3_propose 71 = .ok (.bipush 99, 2) := by decide +kernel
theorem dX3_propose_73 : decode cX3_propose 73 = .ok (.invokestatic 30, 3) := by decide +kernel
theorem dX3_propose_76 : decode cX3_propose 76 = .ok (.ifCond .ne 13, 3) := by decide +kernel
theorem dX3_propose_79 : decode cX3_propose 79 = .ok (.new 34, 3) := by decide +kernel
theorem dX3_propose_82 : decode cX3_propose 82 = .ok (.dup, 1) := by decide +kernel
theorem dX3_propose_83 : decode cX3_propose 83 = .ok (.ldc 76, 2) := by decide +kernel
theorem dX3_propose_85 : decode cX3_propose 85 = .ok (.invokespecial 38, 3) := by decide +kernel
theorem dX3_propose_88 : decode cX3_propose 88 = .ok (.athrow, 1) := by decide +kernel
theorem dX3_propose_89 : decode cX3_propose 89 = .ok (.aload 6, 2) := by decide +kernel
theorem dX3_propose_91 : decode cX3_propose 91 = .ok (.getfield 78, 3) := by decide +kernel
theorem dX3_propose_94 : decode cX3_propose 94 = .ok (.ifCond .eq 13, 3) := by decide +kernel
theorem dX3_propose_97 : decode cX3_propose 97 = .ok (.new 47, 3) := by decide +kernel
theorem dX3_propose_100 : decode cX3_propose 100 = .ok (.dup, 1) := by decide +kernel
theorem dX3_propose_101 : decode cX3_propose 101 = .ok (.ldc 82, 2) := by decide +kernel
theorem dX3_propose_103 : decode cX3_propose 103 = .ok (.invokespecial 51, 3) := by decide +kernel
theorem dX3_propose_106 : decode cX3_propose 106 = .ok (.athrow, 1) := by decide +kernel
theorem dX3_propose_107 : decode cX3_propose 107 = .ok (.aload_n 0, 1) := by decide +kernel
theorem dX3_propose_108 : decode cX3_propose 108 = .ok (.getfield 16, 3) := by decide +kernel
theorem dX3_propose_111 : decode cX3_propose 111 = .ok (.invokevirtual 43, 3) := by decide +kernel
theorem dX3_propose_114 : decode cX3_propose 114 = .ok (.bipush 8, 2) := by decide +kernel
theorem dX3_propose_116 : decode cX3_propose 116 = .ok (.if_icmp .lt 13, 3) := by decide +kernel
theorem dX3_propose_119 : decode cX3_propose 119 = .ok (.new 47, 3) := by decide +kernel
theorem dX3_propose_122 : decode cX3_propose 122 = .ok (.dup, 1) := by decide +kernel
theorem dX3_propose_123 : decode cX3_propose 123 = .ok (.ldc 84, 2) := by decide +kernel
theorem dX3_propose_125 : decode cX3_propose 125 = .ok (.invokespecial 51, 3) := by decide +kernel
theorem dX3_propose_128 : decode cX3_propose 128 = .ok (.athrow, 1) := by decide +kernel
theorem dX3_propose_129 : decode cX3_propose 129 = .ok (.aload_n 0, 1) := by decide +kernel
theorem dX3_propose_130 : decode cX3_propose 130 = .ok (.getfield 16, 3) := by decide +kernel
theorem dX3_propose_133 : decode cX3_propose 133 = .ok (.invokevirtual 43, 3) := by decide +kernel
theorem dX3_propose_136 : decode cX3_propose 136 = .ok (.istore 7, 2) := by decide +kernel
theorem dX3_propose_138 : decode cX3_propose 138 = .ok (.aload_n 0, 1) := by decide +kernel
theorem dX3_propose_139 : decode cX3_propose 139 = .ok (.getfield 16, 3) := by decide +kernel
theorem dX3_propose_142 : decode cX3_propose 142 = .ok (.new 86, 3) := by decide +kernel
theorem dX3_propose_145 : decode cX3_propose 145 = .ok (.dup, 1) := by decide +kernel
theorem dX3_propose_146 : decode cX3_propose 146 = .ok (.iload 7, 2) := by decide +kernel
theorem dX3_propose_148 : decode cX3_propose 148 = .ok (.aload 6, 2) := by decide +kernel
theorem dX3_propose_150 : decode cX3_propose 150 = .ok (.iload_n 2, 1) := by decide +kernel
theorem dX3_propose_151 : decode cX3_propose 151 = .ok (.iload_n 3, 1) := by decide +kernel
theorem dX3_propose_152 : decode cX3_propose 152 = .ok (.iload 4, 2) := by decide +kernel
theorem dX3_propose_154 : decode cX3_propose 154 = .ok (.iload 5, 2) := by decide +kernel
theorem dX3_propose_156 : decode cX3_propose 156 = .ok (.invokespecial 88, 3) := by decide +kernel
theorem dX3_propose_159 : decode cX3_propose 159 = .ok (.invokevirtual 57, 3) := by decide +kernel
theorem dX3_propose_162 : decode cX3_propose 162 = .ok (.pop, 1) := by decide +kernel
theorem dX3_propose_163 : decode cX3_propose 163 = .ok (.iload 7, 2) := by decide +kernel
theorem dX3_propose_165 : decode cX3_propose 165 = .ok (.ireturn, 1) := by decide +kernel
theorem dX3_meet_0 : decode cX3_meet 0 = .ok (.aload_n 0, 1) := by decide +kernel
theorem dX3_meet_1 : decode cX3_meet 1 = .ok (.iload_n 1, 1) := by decide +kernel
theorem dX3_meet_2 : decode cX3_meet 2 = .ok (.invokevirtual 61, 3) := by decide +kernel
theorem dX3_meet_5 : decode cX3_meet 5 = .ok (.astore_n 2, 1) := by decide +kernel
theorem dX3_meet_6 : decode cX3_meet 6 = .ok (.aload_n 2, 1) := by decide +kernel
theorem dX3_meet_7 : decode cX3_meet 7 = .ok (.getfield 78, 3) := by decide +kernel
theorem dX3_meet_10 : decode cX3_meet 10 = .ok (.ifCond .eq 13, 3) := by decide +kernel
theorem dX3_meet_13 : decode cX3_meet 13 = .ok (.new 47, 3) := by decide +kernel
theorem dX3_meet_16 : decode cX3_meet 16 = .ok (.dup, 1) := by decide +kernel
theorem dX3_meet_17 : decode cX3_meet 17 = .ok (.ldc 82, 2) := by decide +kernel
theorem dX3_meet_19 : decode cX3_meet 19 = .ok (.invokespecial 51, 3) := by decide +kernel
theorem dX3_meet_22 : decode cX3_meet 22 = .ok (.athrow, 1) := by decide +kernel
theorem dX3_meet_23 : decode cX3_meet 23 = .ok (.aload_n 2, 1) := by decide +kernel
theorem dX3_meet_24 : decode cX3_meet 24 = .ok (.iconst 1, 1) := by decide +kernel
theorem dX3_meet_25 : decode cX3_meet 25 = .ok (.putfield 78, 3) := by decide +kernel
theorem dX3_meet_28 : decode cX3_meet 28 = .ok (.bipush 100, 2) := by decide +kernel
theorem dX3_meet_30 : decode cX3_meet 30 = .ok (.istore_n 3, 1) := by decide +kernel
theorem dX3_meet_31 : decode cX3_meet 31 = .ok (.iload_n 3, 1) := by decide +kernel
theorem dX3_meet_32 : decode cX3_meet 32 = .ok (.ifCond .lt 15, 3) := by decide +kernel
theorem dX3_meet_35 : decode cX3_meet 35 = .ok (.aload_n 0, 1) := by decide +kernel
theorem dX3_meet_36 : decode cX3_meet 36 = .ok (.aload_n 2, 1) := by decide +kernel
theorem dX3_meet_37 : decode cX3_meet 37 = .ok (.iload_n 3, 1) := by decide +kernel
theorem dX3_meet_38 : decode cX3_meet 38 = .ok (.invokevirtual 91, 3) := by decide +kernel
theorem dX3_meet_41 : decode cX3_meet 41 = .ok (.iinc 3 (-1), 3) := by decide +kernel
theorem dX3_meet_44 : decode cX3_meet 44 = .ok (.goto (-13), 3) := by decide +kernel
theorem dX3_meet_47 : decode cX3_meet 47 = .ok (.aload_n 2, 1) := by decide +kernel
theorem dX3_meet_48 : decode cX3_meet 48 = .ok (.getfield 95, 3) := by decide +kernel
theorem dX3_meet_51 : decode cX3_meet 51 = .ok (.invokevirtual 43, 3) := by decide +kernel
theorem dX3_meet_54 : decode cX3_meet 54 = .ok (.ireturn, 1) := by decide +kernel
theorem dX3_reserve_0 : decode cX3_reserve 0 = .ok (.aload_n 0, 1) := by decide +kernel
theorem dX3_reserve_1 : decode cX3_reserve 1 = .ok (.iload_n 1, 1) := by decide +kernel
theorem dX3_reserve_2 : decode cX3_reserve 2 = .ok (.invokevirtual 61, 3) := by decide +kernel
theorem dX3_reserve_5 : decode cX3_reserve 5 = .ok (.astore_n 2, 1) := by decide +kernel
theorem dX3_reserve_6 : decode cX3_reserve 6 = .ok (.aload_n 2, 1) := by decide +kernel
theorem dX3_reserve_7 : decode cX3_reserve 7 = .ok (.getfield 78, 3) := by decide +kernel
theorem dX3_reserve_10 : decode cX3_reserve 10 = .ok (.ifCond .ne 13, 3) := by decide +kernel
theorem dX3_reserve_13 : decode cX3_reserve 13 = .ok (.new 47, 3) := by decide +kernel
theorem dX3_reserve_16 : decode cX3_reserve 16 = .ok (.dup, 1) := by decide +kernel
theorem dX3_reserve_17 : decode cX3_reserve 17 = .ok (.ldc 98, 2) := by decide +kernel
theorem dX3_reserve_19 : decode cX3_reserve 19 = .ok (.invokespecial 51, 3) := by decide +kernel
theorem dX3_reserve_22 : decode cX3_reserve 22 = .ok (.athrow, 1) := by decide +kernel
theorem dX3_reserve_23 : decode cX3_reserve 23 = .ok (.aload_n 2, 1) := by decide +kernel
theorem dX3_reserve_24 : decode cX3_reserve 24 = .ok (.getfield 100, 3) := by decide +kernel
theorem dX3_reserve_27 : decode cX3_reserve 27 = .ok (.getfield 104, 3) := by decide +kernel
theorem dX3_reserve_30 : decode cX3_reserve 30 = .ok (.ireturn, 1) := by decide +kernel
theorem dX3_train_0 : decode cX3_train 0 = .ok (.iload_n 1, 1) := by decide +kernel
theorem dX3_train_1 : decode cX3_train 1 = .ok (.ifCond .lt 12, 3) := by decide +kernel
theorem dX3_train_4 : decode cX3_train 4 = .ok (.iload_n 1, 1) := by decide +kernel
theorem dX3_train_5 : decode cX3_train 5 = .ok (.aload_n 0, 1) := by decide +kernel
theorem dX3_train_6 : decode cX3_train 6 = .ok (.getfield 19, 3) := by decide +kernel
theorem dX3_train_9 : decode cX3_train 9 = .ok (.arraylength, 1) := by decide +kernel
theorem dX3_train_10 : decode cX3_train 10 = .ok (.if_icmp .lt 13, 3) := by decide +kernel
theorem dX3_train_13 : decode cX3_train 13 = .ok (.new 109, 3) := by decide +kernel
theorem dX3_train_16 : decode cX3_train 16 = .ok (.dup, 1) := by decide +kernel
theorem dX3_train_17 : decode cX3_train 17 = .ok (.ldc 111, 2) := by decide +kernel
theorem dX3_train_19 : decode cX3_train 19 = .ok (.invokespecial 113, 3) := by decide +kernel
theorem dX3_train_22 : decode cX3_train 22 = .ok (.athrow, 1) := by decide +kernel
theorem dX3_train_23 : decode cX3_train 23 = .ok (.aload_n 0, 1) := by decide +kernel
theorem dX3_train_24 : decode cX3_train 24 = .ok (.getfield 19, 3) := by decide +kernel
theorem dX3_train_27 : decode cX3_train 27 = .ok (.iload_n 1, 1) := by decide +kernel
theorem dX3_train_28 : decode cX3_train 28 = .ok (.baload, 1) := by decide +kernel
theorem dX3_train_29 : decode cX3_train 29 = .ok (.ifCond .eq 13, 3) := by decide +kernel
theorem dX3_train_32 : decode cX3_train 32 = .ok (.new 47, 3) := by decide +kernel
theorem dX3_train_35 : decode cX3_train 35 = .ok (.dup, 1) := by decide +kernel
theorem dX3_train_36 : decode cX3_train 36 = .ok (.ldc 114, 2) := by decide +kernel
theorem dX3_train_38 : decode cX3_train 38 = .ok (.invokespecial 51, 3) := by decide +kernel
theorem dX3_train_41 : decode cX3_train 41 = .ok (.athrow, 1) := by decide +kernel
theorem dX3_train_42 : decode cX3_train 42 = .ok (.aload_n 0, 1) := by decide +kernel
theorem dX3_train_43 : decode cX3_train 43 = .ok (.getfield 19, 3) := by decide +kernel
theorem dX3_train_46 : decode cX3_train 46 = .ok (.iload_n 1, 1) := by decide +kernel
theorem dX3_train_47 : decode cX3_train 47 = .ok (.iconst 1, 1) := by decide +kernel
theorem dX3_train_48 : decode cX3_train 48 = .ok (.bastore, 1) := by decide +kernel
theorem dX3_train_49 : decode cX3_train 49 = .ok (.iconst 0, 1) := by decide +kernel
theorem dX3_train_50 : decode cX3_train 50 = .ok (.istore_n 2, 1) := by decide +kernel
theorem dX3_train_51 : decode cX3_train 51 = .ok (.aload_n 0, 1) := by decide +kernel
theorem dX3_train_52 : decode cX3_train 52 = .ok (.getfield 19, 3) := by decide +kernel
theorem dX3_train_55 : decode cX3_train 55 = .ok (.astore_n 3, 1) := by decide +kernel
theorem dX3_train_56 : decode cX3_train 56 = .ok (.aload_n 3, 1) := by decide +kernel
theorem dX3_train_57 : decode cX3_train 57 = .ok (.arraylength, 1) := by decide +kernel
theorem dX3_train_58 : decode cX3_train 58 = .ok (.istore 4, 2) := by decide +kernel
theorem dX3_train_60 : decode cX3_train 60 = .ok (.iconst 0, 1) := by decide +kernel
theorem dX3_train_61 : decode cX3_train 61 = .ok (.istore 5, 2) := by decide +kernel
theorem dX3_train_63 : decode cX3_train 63 = .ok (.iload 5, 2) := by decide +kernel
theorem dX3_train_65 : decode cX3_train 65 = .ok (.iload 4, 2) := by decide +kernel
theorem dX3_train_67 : decode cX3_train 67 = .ok (.if_icmp .ge 23, 3) := by decide +kernel
theorem dX3_train_70 : decode cX3_train 70 = .ok (.aload_n 3, 1) := by decide +kernel
theorem dX3_train_71 : decode cX3_train 71 = .ok (.iload 5, 2) := by decide +kernel
theorem dX3_train_73 : decode cX3_train 73 = .ok (.baload, 1) := by decide +kernel
theorem dX3_train_74 : decode cX3_train 74 = .ok (.istore 6, 2) := by decide +kernel
theorem dX3_train_76 : decode cX3_train 76 = .ok (.iload 6, 2) := by decide +kernel
theorem dX3_train_78 : decode cX3_train 78 = .ok (.ifCond .eq 6, 3) := by decide +kernel
theorem dX3_train_81 : decode cX3_train 81 = .ok (.iinc 2 1, 3) := by decide +kernel
theorem dX3_train_84 : decode cX3_train 84 = .ok (.iinc 5 1, 3) := by decide +kernel
theorem dX3_train_87 : decode cX3_train 87 = .ok (.goto (-24), 3) := by decide +kernel
theorem dX3_train_90 : decode cX3_train 90 = .ok (.iload_n 2, 1) := by decide +kernel
theorem dX3_train_91 : decode cX3_train 91 = .ok (.ireturn, 1) := by decide +kernel
theorem dX3_setThere_0 : decode cX3_setThere 0 = .ok (.iload_n 1, 1) := by decide +kernel
theorem dX3_setThere_1 : decode cX3_setThere 1 = .ok (.ifCond .lt 12, 3) := by decide +kernel
theorem dX3_setThere_4 : decode cX3_setThere 4 = .ok (.iload_n 1, 1) := by decide +kernel
theorem dX3_setThere_5 : decode cX3_setThere 5 = .ok (.aload_n 0, 1) := by decide +kernel
theorem dX3_setThere_6 : decode cX3_setThere 6 = .ok (.getfield 23, 3) := by decide +kernel
theorem dX3_setThere_9 : decode cX3_setThere 9 = .ok (.arraylength, 1) := by decide +kernel
theorem dX3_setThere_10 : decode cX3_setThere 10 = .ok (.if_icmp .lt 13, 3) := by decide +kernel
theorem dX3_setThere_13 : decode cX3_setThere 13 = .ok (.new 109, 3) := by decide +kernel
theorem dX3_setThere_16 : decode cX3_setThere 16 = .ok (.dup, 1) := by decide +kernel
theorem dX3_setThere_17 : decode cX3_setThere 17 = .ok (.ldc 111, 2) := by decide +kernel
theorem dX3_setThere_19 : decode cX3_setThere 19 = .ok (.invokespecial 113, 3) := by decide +kernel
theorem dX3_setThere_22 : decode cX3_setThere 22 = .ok (.athrow, 1) := by decide +kernel
theorem dX3_setThere_23 : decode cX3_setThere 23 = .ok (.aload_n 0, 1) := by decide +kernel
theorem dX3_setThere_24 : decode cX3_setThere 24 = .ok (.getfield 23, 3) := by decide +kernel
theorem dX3_setThere_27 : decode cX3_setThere 27 = .ok (.iload_n 1, 1) := by decide +kernel
theorem dX3_setThere_28 : decode cX3_setThere 28 = .ok (.baload, 1) := by decide +kernel
theorem dX3_setThere_29 : decode cX3_setThere 29 = .ok (.istore_n 3, 1) := by decide +kernel
theorem dX3_setThere_30 : decode cX3_setThere 30 = .ok (.aload_n 0, 1) := by decide +kernel
theorem dX3_setThere_31 : decode cX3_setThere 31 = .ok (.getfield 23, 3) := by decide +kernel
theorem dX3_setThere_34 : decode cX3_setThere 34 = .ok (.iload_n 1, 1) := by decide +kernel
theorem dX3_setThere_35 : decode cX3_setThere 35 = .ok (.iload_n 2, 1) := by decide +kernel
theorem dX3_setThere_36 : decode cX3_setThere 36 = .ok (.bastore, 1) := by decide +kernel
theorem dX3_setThere_37 : decode cX3_setThere 37 = .ok (.iload_n 3, 1) := by decide +kernel
theorem dX3_setThere_38 : decode cX3_setThere 38 = .ok (.ireturn, 1) := by decide +kernel
theorem dX3_bring_0 : decode cX3_bring 0 = .ok (.aload_n 0, 1) := by decide +kernel
theorem dX3_bring_1 : decode cX3_bring 1 = .ok (.iload_n 1, 1) := by decide +kernel
theorem dX3_bring_2 : decode cX3_bring 2 = .ok (.invokevirtual 116, 3) := by decide +kernel
theorem dX3_bring_5 : decode cX3_bring 5 = .ok (.astore_n 3, 1) := by decide +kernel
theorem dX3_bring_6 : decode cX3_bring 6 = .ok (.iload_n 2, 1) := by decide +kernel
theorem dX3_bring_7 : decode cX3_bring 7 = .ok (.iconst 1, 1) := by decide +kernel
theorem dX3_bring_8 : decode cX3_bring 8 = .ok (.bipush 50, 2) := by decide +kernel
theorem dX3_bring_10 : decode cX3_bring 10 = .ok (.invokestatic 30, 3) := by decide +kernel
theorem dX3_bring_13 : decode cX3_bring 13 = .ok (.ifCond .ne 13, 3) := by decide +kernel
theorem dX3_bring_16 : decode cX3_bring 16 = .ok (.new 34, 3) := by decide +kernel
theorem dX3_bring_19 : decode cX3_bring 19 = .ok (.dup, 1) := by decide +kernel
theorem dX3_bring_20 : decode cX3_bring 20 = .ok (.ldc 120, 2) := by decide +kernel
theorem dX3_bring_22 : decode cX3_bring 22 = .ok (.invokespecial 38, 3) := by decide +kernel
theorem dX3_bring_25 : decode cX3_bring 25 = .ok (.athrow, 1) := by decide +kernel
theorem dX3_bring_26 : decode cX3_bring 26 = .ok (.aload_n 3, 1) := by decide +kernel
theorem dX3_bring_27 : decode cX3_bring 27 = .ok (.getfield 122, 3) := by decide +kernel
theorem dX3_bring_30 : decode cX3_bring 30 = .ok (.istore 4, 2) := by decide +kernel
theorem dX3_bring_32 : decode cX3_bring 32 = .ok (.aload_n 3, 1) := by decide +kernel
theorem dX3_bring_33 : decode cX3_bring 33 = .ok (.iload_n 2, 1) := by decide +kernel
theorem dX3_bring_34 : decode cX3_bring 34 = .ok (.putfield 122, 3) := by decide +kernel
theorem dX3_bring_37 : decode cX3_bring 37 = .ok (.aload_n 3, 1) := by decide +kernel
theorem dX3_bring_38 : decode cX3_bring 38 = .ok (.bipush 114, 2) := by decide +kernel
theorem dX3_bring_40 : decode cX3_bring 40 = .ok (.putfield 125, 3) := by decide +kernel
theorem dX3_bring_43 : decode cX3_bring 43 = .ok (.iload 4, 2) := by decide +kernel
theorem dX3_bring_45 : decode cX3_bring 45 = .ok (.ireturn, 1) := by decide +kernel
theorem dX3_put_0 : decode cX3_put 0 = .ok (.aload_n 0, 1) := by decide +kernel
theorem dX3_put_1 : decode cX3_put 1 = .ok (.iload_n 1, 1) := by decide +kernel
theorem dX3_put_2 : decode cX3_put 2 = .ok (.invokevirtual 116, 3) := by decide +kernel
theorem dX3_put_5 : decode cX3_put 5 = .ok (.astore_n 3, 1) := by decide +kernel
theorem dX3_put_6 : decode cX3_put 6 = .ok (.iload_n 2, 1) := by decide +kernel
theorem dX3_put_7 : decode cX3_put 7 = .ok (.bipush 114, 2) := by decide +kernel
theorem dX3_put_9 : decode cX3_put 9 = .ok (.if_icmp .eq 25, 3) := by decide +kernel
theorem dX3_put_12 : decode cX3_put 12 = .ok (.iload_n 2, 1) := by decide +kernel
theorem dX3_put_13 : decode cX3_put 13 = .ok (.bipush 99, 2) := by decide +kernel
theorem dX3_put_15 : decode cX3_put 15 = .ok (.if_icmp .eq 19, 3) := by decide +kernel
theorem dX3_put_18 : decode cX3_put 18 = .ok (.iload_n 2, 1) := by decide +kernel
theorem dX3_put_19 : decode cX3_put 19 = .ok (.bipush 98, 2) := by decide +kernel
theorem dX3_put_21 : decode cX3_put 21 = .ok (.if_icmp .eq 13, 3) := by decide +kernel
theorem dX3_put_24 : decode cX3_put 24 = .ok (.new 34, 3) := by decide +kernel
theorem dX3_put_27 : decode cX3_put 27 = .ok (.dup, 1) := by decide +kernel
theorem dX3_put_28 : decode cX3_put 28 = .ok (.ldc 129, 2) := by decide +kernel
theorem dX3_put_30 : decode cX3_put 30 = .ok (.invokespecial 38, 3) := by decide +kernel
theorem dX3_put_33 : decode cX3_put 33 = .ok (.athrow, 1) := by decide +kernel
theorem dX3_put_34 : decode cX3_put 34 = .ok (.aload_n 3, 1) := by decide +kernel
theorem dX3_put_35 : decode cX3_put 35 = .ok (.invokevirtual 131, 3) := by decide +kernel
theorem dX3_put_38 : decode cX3_put 38 = .ok (.ifCond .ne 13, 3) := by decide +kernel
theorem dX3_put_41 : decode cX3_put 41 = .ok (.new 135, 3) := by decide +kernel
theorem dX3_put_44 : decode cX3_put 44 = .ok (.dup, 1) := by decide +kernel
theorem dX3_put_45 : decode cX3_put 45 = .ok (.ldc 137, 2) := by decide +kernel
theorem dX3_put_47 : decode cX3_put 47 = .ok (.invokespecial 139, 3) := by decide +kernel
theorem dX3_put_50 : decode cX3_put 50 = .ok (.athrow, 1) := by decide +kernel
theorem dX3_put_51 : decode cX3_put 51 = .ok (.iload_n 2, 1) := by decide +kernel
theorem dX3_put_52 : decode cX3_put 52 = .ok (.bipush 99, 2) := by decide +kernel
theorem dX3_put_54 : decode cX3_put 54 = .ok (.if_icmp .ne 28, 3) := by decide +kernel
theorem dX3_put_57 : decode cX3_put 57 = .ok (.aload_n 3, 1) := by decide +kernel
theorem dX3_put_58 : decode cX3_put 58 = .ok (.invokevirtual 140, 3) := by decide +kernel
theorem dX3_put_61 : decode cX3_put 61 = .ok (.ifCond .ne 21, 3) := by decide +kernel
theorem dX3_put_64 : decode cX3_put 64 = .ok (.aload_n 0, 1) := by decide +kernel
theorem dX3_put_65 : decode cX3_put 65 = .ok (.invokevirtual 143, 3) := by decide +kernel
theorem dX3_put_68 : decode cX3_put 68 = .ok (.iconst 3, 1) := by decide +kernel
theorem dX3_put_69 : decode cX3_put 69 = .ok (.if_icmp .lt 13, 3) := by decide +kernel
theorem dX3_put_72 : decode cX3_put 72 = .ok (.new 146, 3) := by decide +kernel
theorem dX3_put_75 : decode cX3_put 75 = .ok (.dup, 1) := by decide +kernel
theorem dX3_put_76 : decode cX3_put 76 = .ok (.ldc 148, 2) := by decide +kernel
theorem dX3_put_78 : decode cX3_put 78 = .ok (.invokespecial 150, 3) := by decide +kernel
theorem dX3_put_81 : decode cX3_put 81 = .ok (.athrow, 1) := by decide +kernel
theorem dX3_put_82 : decode cX3_put 82 = .ok (.aload_n 3, 1) := by decide +kernel
theorem dX3_put_83 : decode cX3_put 83 = .ok (.getfield 125, 3) := by decide +kernel
theorem dX3_put_86 : decode cX3_put 86 = .ok (.istore 4, 2) := by decide +kernel
theorem dX3_put_88 : decode cX3_put 88 = .ok (.aload_n 3, 1) := by decide +kernel
theorem dX3_put_89 : decode cX3_put 89 = .ok (.iload_n 2, 1) := by decide +kernel
theorem dX3_put_90 : decode cX3_put 90 = .ok (.putfield 125, 3) := by decide +kernel
theorem dX3_put_93 : decode cX3_put 93 = .ok (.iload 4, 2) := by decide +kernel
theorem dX3_put_95 : decode cX3_put 95 = .ok (.ireturn, 1) := by decide +kernel
theorem dX3_life_0 : decode cX3_life 0 = .ok (.aload_n 0, 1) := by decide +kernel
theorem dX3_life_1 : decode cX3_life 1 = .ok (.iload_n 1, 1) := by decide +kernel
theorem dX3_life_2 : decode cX3_life 2 = .ok (.invokevirtual 116, 3) := by decide +kernel
theorem dX3_life_5 : decode cX3_life 5 = .ok (.astore_n 2, 1) := by decide +kernel
theorem dX3_life_6 : decode cX3_life 6 = .ok (.aload_n 2, 1) := by decide +kernel
theorem dX3_life_7 : decode cX3_life 7 = .ok (.invokevirtual 131, 3) := by decide +kernel
theorem dX3_life_10 : decode cX3_life 10 = .ok (.ifCond .ne 13, 3) := by decide +kernel
theorem dX3_life_13 : decode cX3_life 13 = .ok (.new 135, 3) := by decide +kernel
theorem dX3_life_16 : decode cX3_life 16 = .ok (.dup, 1) := by decide +kernel
theorem dX3_life_17 : decode cX3_life 17 = .ok (.ldc 137, 2) := by decide +kernel
theorem dX3_life_19 : decode cX3_life 19 = .ok (.invokespecial 139, 3) := by decide +kernel
theorem dX3_life_22 : decode cX3_life 22 = .ok (.athrow, 1) := by decide +kernel
theorem dX3_life_23 : decode cX3_life 23 = .ok (.aload_n 2, 1) := by decide +kernel
theorem dX3_life_24 : decode cX3_life 24 = .ok (.getfield 122, 3) := by decide +kernel
theorem dX3_life_27 : decode cX3_life 27 = .ok (.ireturn, 1) := by decide +kernel
theorem dX3_on_0 : decode cX3_on 0 = .ok (.aload_n 0, 1) := by decide +kernel
theorem dX3_on_1 : decode cX3_on 1 = .ok (.iload_n 1, 1) := by decide +kernel
theorem dX3_on_2 : decode cX3_on 2 = .ok (.invokevirtual 61, 3) := by decide +kernel
theorem dX3_on_5 : decode cX3_on 5 = .ok (.invokevirtual 151, 3) := by decide +kernel
theorem dX3_on_8 : decode cX3_on 8 = .ok (.astore_n 2, 1) := by decide +kernel
theorem dX3_on_9 : decode cX3_on 9 = .ok (.aload_n 2, 1) := by decide +kernel
theorem dX3_on_10 : decode cX3_on 10 = .ok (.ifnonnull 13, 3) := by decide +kernel
theorem dX3_on_13 : decode cX3_on 13 = .ok (.new 135, 3) := by decide +kernel
theorem dX3_on_16 : decode cX3_on 16 = .ok (.dup, 1) := by decide +kernel
theorem dX3_on_17 : decode cX3_on 17 = .ok (.ldc 155, 2) := by decide +kernel
theorem dX3_on_19 : decode cX3_on 19 = .ok (.invokespecial 139, 3) := by decide +kernel
theorem dX3_on_22 : decode cX3_on 22 = .ok (.athrow, 1) := by decide +kernel
theorem dX3_on_23 : decode cX3_on 23 = .ok (.aload_n 2, 1) := by decide +kernel
theorem dX3_on_24 : decode cX3_on 24 = .ok (.getfield 157, 3) := by decide +kernel
theorem dX3_on_27 : decode cX3_on 27 = .ok (.ireturn, 1) := by decide +kernel
theorem dX3_reason_0 : decode cX3_reason 0 = .ok (.aload_n 0, 1) := by decide +kernel
theorem dX3_reason_1 : decode cX3_reason 1 = .ok (.aload_n 0, 1) := by decide +kernel
theorem dX3_reason_2 : decode cX3_reason 2 = .ok (.iload_n 1, 1) := by decide +kernel
theorem dX3_reason_3 : decode cX3_reason 3 = .ok (.invokevirtual 61, 3) := by decide +kernel
theorem dX3_reason_6 : decode cX3_reason 6 = .ok (.invokevirtual 160, 3) := by decide +kernel
theorem dX3_reason_9 : decode cX3_reason 9 = .ok (.ireturn, 1) := by decide +kernel
theorem dX3_fail_0 : decode cX3_fail 0 = .ok (.aload_n 0, 1) := by decide +kernel
theorem dX3_fail_1 : decode cX3_fail 1 = .ok (.iload_n 1, 1) := by decide +kernel
theorem dX3_fail_2 : decode cX3_fail 2 = .ok (.invokevirtual 61, 3) := by decide +kernel
theorem dX3_fail_5 : decode cX3_fail 5 = .ok (.astore_n 2, 1) := by decide +kernel
theorem dX3_fail_6 : decode cX3_fail 6 = .ok (.aload_n 2, 1) := by decide +kernel
theorem dX3_fail_7 : decode cX3_fail 7 = .ok (.getfield 164, 3) := by decide +kernel
theorem dX3_fail_10 : decode cX3_fail 10 = .ok (.ifCond .eq 13, 3) := by decide +kernel
theorem dX3_fail_13 : decode cX3_fail 13 = .ok (.new 47, 3) := by decide +kernel
theorem dX3_fail_16 : decode cX3_fail 16 = .ok (.dup, 1) := by decide +kernel
theorem dX3_fail_17 : decode cX3_fail 17 = .ok (.ldc 167, 2) := by decide +kernel
theorem dX3_fail_19 : decode cX3_fail 19 = .ok (.invokespecial 51, 3) := by decide +kernel
theorem dX3_fail_22 : decode cX3_fail 22 = .ok (.athrow, 1) := by decide +kernel
theorem dX3_fail_23 : decode cX3_fail 23 = .ok (.aload_n 2, 1) := by decide +kernel
theorem dX3_fail_24 : decode cX3_fail 24 = .ok (.iconst 1, 1) := by decide +kernel
theorem dX3_fail_25 : decode cX3_fail 25 = .ok (.putfield 164, 3) := by decide +kernel
theorem dX3_fail_28 : decode cX3_fail 28 = .ok (.aload_n 2, 1) := by decide +kernel
theorem dX3_fail_29 : decode cX3_fail 29 = .ok (.invokevirtual 151, 3) := by decide +kernel
theorem dX3_fail_32 : decode cX3_fail 32 = .ok (.ifnull 7, 3) := by decide +kernel
theorem dX3_fail_35 : decode cX3_fail 35 = .ok (.iconst 1, 1) := by decide +kernel
theorem dX3_fail_36 : decode cX3_fail 36 = .ok (.goto 4, 3) := by decide +kernel
theorem dX3_fail_39 : decode cX3_fail 39 = .ok (.iconst 0, 1) := by decide +kernel
theorem dX3_fail_40 : decode cX3_fail 40 = .ok (.ireturn, 1) := by decide +kernel
theorem dX3_pass_0 : decode cX3_pass 0 = .ok (.iload_n 1, 1) := by decide +kernel
theorem dX3_pass_1 : decode cX3_pass 1 = .ok (.iconst 1, 1) := by decide +kernel
theorem dX3_pass_2 : decode cX3_pass 2 = .ok (.bipush 20, 2) := by decide +kernel
theorem dX3_pass_4 : decode cX3_pass 4 = .ok (.invokestatic 30, 3) := by decide +kernel
theorem dX3_pass_7 : decode cX3_pass 7 = .ok (.ifCond .ne 13, 3) := by decide +kernel
theorem dX3_pass_10 : decode cX3_pass 10 = .ok (.new 34, 3) := by decide +kernel
theorem dX3_pass_13 : decode cX3_pass 13 = .ok (.dup, 1) := by decide +kernel
theorem dX3_pass_14 : decode cX3_pass 14 = .ok (.ldc 169, 2) := by decide +kernel
theorem dX3_pass_16 : decode cX3_pass 16 = .ok (.invokespecial 38, 3) := by decide +kernel
theorem dX3_pass_19 : decode cX3_pass 19 = .ok (.athrow, 1) := by decide +kernel
theorem dX3_pass_20 : decode cX3_pass 20 = .ok (.iload_n 1, 1) := by decide +kernel
theorem dX3_pass_21 : decode cX3_pass 21 = .ok (.sipush 200, 3) := by decide +kernel
theorem dX3_pass_24 : decode cX3_pass 24 = .ok (.aload_n 0, 1) := by decide +kernel
theorem dX3_pass_25 : decode cX3_pass 25 = .ok (.getfield 26, 3) := by decide +kernel
theorem dX3_pass_28 : decode cX3_pass 28 = .ok (.isub, 1) := by decide +kernel
theorem dX3_pass_29 : decode cX3_pass 29 = .ok (.if_icmp .le 13, 3) := by decide +kernel
theorem dX3_pass_32 : decode cX3_pass 32 = .ok (.new 47, 3) := by decide +kernel
theorem dX3_pass_35 : decode cX3_pass 35 = .ok (.dup, 1) := by decide +kernel
theorem dX3_pass_36 : decode cX3_pass 36 = .ok (.ldc 171, 2) := by decide +kernel
theorem dX3_pass_38 : decode cX3_pass 38 = .ok (.invokespecial 51, 3) := by decide +kernel
theorem dX3_pass_41 : decode cX3_pass 41 = .ok (.athrow, 1) := by decide +kernel
theorem dX3_pass_42 : decode cX3_pass 42 = .ok (.iconst 0, 1) := by decide +kernel
theorem dX3_pass_43 : decode cX3_pass 43 = .ok (.istore_n 2, 1) := by decide +kernel
theorem dX3_pass_44 : decode cX3_pass 44 = .ok (.iconst 0, 1) := by decide +kernel
theorem dX3_pass_45 : decode cX3_pass 45 = .ok (.istore_n 3, 1) := by decide +kernel
theorem dX3_pass_46 : decode cX3_pass 46 = .ok (.iload_n 3, 1) := by decide +kernel
theorem dX3_pass_47 : decode cX3_pass 47 = .ok (.iload_n 1, 1) := by decide +kernel
theorem dX3_pass_48 : decode cX3_pass 48 = .ok (.if_icmp .ge 16, 3) := by decide +kernel
theorem dX3_pass_51 : decode cX3_pass 51 = .ok (.iload_n 2, 1) := by decide +kernel
theorem dX3_pass_52 : decode cX3_pass 52 = .ok (.aload_n 0, 1) := by decide +kernel
theorem dX3_pass_53 : decode cX3_pass 53 = .ok (.invokevirtual 173, 3) := by decide +kernel
theorem dX3_pass_56 : decode cX3_pass 56 = .ok (.iadd, 1) := by decide +kernel
theorem dX3_pass_57 : decode cX3_pass 57 = .ok (.istore_n 2, 1) := by decide +kernel
theorem dX3_pass_58 : decode cX3_pass 58 = .ok (.iinc 3 1, 3) := by decide +kernel
theorem dX3_pass_61 : decode cX3_pass 61 = .ok (.goto (-15), 3) := by decide +kernel
theorem dX3_pass_64 : decode cX3_pass 64 = .ok (.iload_n 2, 1) := by decide +kernel
theorem dX3_pass_65 : decode cX3_pass 65 = .ok (.ireturn, 1) := by decide +kernel
theorem dX3_time_0 : decode cX3_time 0 = .ok (.aload_n 0, 1) := by decide +kernel
theorem dX3_time_1 : decode cX3_time 1 = .ok (.getfield 26, 3) := by decide +kernel
theorem dX3_time_4 : decode cX3_time 4 = .ok (.ireturn, 1) := by decide +kernel
theorem dX3_left_0 : decode cX3_left 0 = .ok (.aload_n 0, 1) := by decide +kernel
theorem dX3_left_1 : decode cX3_left 1 = .ok (.iload_n 1, 1) := by decide +kernel
theorem dX3_left_2 : decode cX3_left 2 = .ok (.invokevirtual 116, 3) := by decide +kernel
theorem dX3_left_5 : decode cX3_left 5 = .ok (.invokestatic 179, 3) := by decide +kernel
theorem dX3_left_8 : decode cX3_left 8 = .ok (.ireturn, 1) := by decide +kernel
theorem dX3_leftAnew_0 : decode cX3_leftAnew 0 = .ok (.aload_n 0, 1) := by decide +kernel
theorem dX3_leftAnew_1 : decode cX3_leftAnew 1 = .ok (.iload_n 1, 1) := by decide +kernel
theorem dX3_leftAnew_2 : decode cX3_leftAnew 2 = .ok (.invokevirtual 116, 3) := by decide +kernel
theorem dX3_leftAnew_5 : decode cX3_leftAnew 5 = .ok (.astore_n 2, 1) := by decide +kernel
theorem dX3_leftAnew_6 : decode cX3_leftAnew 6 = .ok (.aload_n 2, 1) := by decide +kernel
theorem dX3_leftAnew_7 : decode cX3_leftAnew 7 = .ok (.getfield 183, 3) := by decide +kernel
theorem dX3_leftAnew_10 : decode cX3_leftAnew 10 = .ok (.invokevirtual 187, 3) := by decide +kernel
theorem dX3_leftAnew_13 : decode cX3_leftAnew 13 = .ok (.aload_n 2, 1) := by decide +kernel
theorem dX3_leftAnew_14 : decode cX3_leftAnew 14 = .ok (.getfield 183, 3) := by decide +kernel
theorem dX3_leftAnew_17 : decode cX3_leftAnew 17 = .ok (.getfield 190, 3) := by decide +kernel
theorem dX3_leftAnew_20 : decode cX3_leftAnew 20 = .ok (.aload_n 2, 1) := by decide +kernel
theorem dX3_leftAnew_21 : decode cX3_leftAnew 21 = .ok (.getfield 193, 3) := by decide +kernel
theorem dX3_leftAnew_24 : decode cX3_leftAnew 24 = .ok (.invokevirtual 196, 3) := by decide +kernel
theorem dX3_leftAnew_27 : decode cX3_leftAnew 27 = .ok (.ireturn, 1) := by decide +kernel
theorem dX3_nextAt_0 : decode cX3_nextAt 0 = .ok (.aload_n 0, 1) := by decide +kernel
theorem dX3_nextAt_1 : decode cX3_nextAt 1 = .ok (.iload_n 1, 1) := by decide +kernel
theorem dX3_nextAt_2 : decode cX3_nextAt 2 = .ok (.invokevirtual 116, 3) := by decide +kernel
theorem dX3_nextAt_5 : decode cX3_nextAt 5 = .ok (.astore_n 2, 1) := by decide +kernel
theorem dX3_nextAt_6 : decode cX3_nextAt 6 = .ok (.aload_n 2, 1) := by decide +kernel
theorem dX3_nextAt_7 : decode cX3_nextAt 7 = .ok (.invokestatic 179, 3) := by decide +kernel
theorem dX3_nextAt_10 : decode cX3_nextAt 10 = .ok (.ifCond .ne 13, 3) := by decide +kernel
theorem dX3_nextAt_13 : decode cX3_nextAt 13 = .ok (.new 135, 3) := by decide +kernel
theorem dX3_nextAt_16 : decode cX3_nextAt 16 = .ok (.dup, 1) := by decide +kernel
theorem dX3_nextAt_17 : decode cX3_nextAt 17 = .ok (.ldc 200, 2) := by decide +kernel
theorem dX3_nextAt_19 : decode cX3_nextAt 19 = .ok (.invokespecial 139, 3) := by decide +kernel
theorem dX3_nextAt_22 : decode cX3_nextAt 22 = .ok (.athrow, 1) := by decide +kernel
theorem dX3_nextAt_23 : decode cX3_nextAt 23 = .ok (.aload_n 0, 1) := by decide +kernel
theorem dX3_nextAt_24 : decode cX3_nextAt 24 = .ok (.getfield 26, 3) := by decide +kernel
theorem dX3_nextAt_27 : decode cX3_nextAt 27 = .ok (.aload_n 2, 1) := by decide +kernel
theorem dX3_nextAt_28 : decode cX3_nextAt 28 = .ok (.getfield 183, 3) := by decide +kernel
theorem dX3_nextAt_31 : decode cX3_nextAt 31 = .ok (.getfield 100, 3) := by decide +kernel
theorem dX3_nextAt_34 : decode cX3_nextAt 34 = .ok (.aload_n 2, 1) := by decide +kernel
theorem dX3_nextAt_35 : decode cX3_nextAt 35 = .ok (.getfield 193, 3) := by decide +kernel
theorem dX3_nextAt_38 : decode cX3_nextAt 38 = .ok (.invokevirtual 202, 3) := by decide +kernel
theorem dX3_nextAt_41 : decode cX3_nextAt 41 = .ok (.iadd, 1) := by decide +kernel
theorem dX3_nextAt_42 : decode cX3_nextAt 42 = .ok (.ireturn, 1) := by decide +kernel
theorem dX3_count_0 : decode cX3_count 0 = .ok (.aload_n 0, 1) := by decide +kernel
theorem dX3_count_1 : decode cX3_count 1 = .ok (.iload_n 1, 1) := by decide +kernel
theorem dX3_count_2 : decode cX3_count 2 = .ok (.invokevirtual 116, 3) := by decide +kernel
theorem dX3_count_5 : decode cX3_count 5 = .ok (.astore_n 3, 1) := by decide +kernel
theorem dX3_count_6 : decode cX3_count 6 = .ok (.iload_n 2, 1) := by decide +kernel
theorem dX3_count_7 : decode cX3_count 7 = .ok (.bipush 100, 2) := by decide +kernel
theorem dX3_count_9 : decode cX3_count 9 = .ok (.if_icmp .ne 8, 3) := by decide +kernel
theorem dX3_count_12 : decode cX3_count 12 = .ok (.aload_n 3, 1) := by decide +kernel
theorem dX3_count_13 : decode cX3_count 13 = .ok (.getfield 205, 3) := by decide +kernel
theorem dX3_count_16 : decode cX3_count 16 = .ok (.ireturn, 1) := by decide +kernel
theorem dX3_count_17 : decode cX3_count 17 = .ok (.iload_n 2, 1) := by decide +kernel
theorem dX3_count_18 : decode cX3_count 18 = .ok (.bipush 109, 2) := by decide +kernel
theorem dX3_count_20 : decode cX3_count 20 = .ok (.if_icmp .ne 8, 3) := by decide +kernel
theorem dX3_count_23 : decode cX3_count 23 = .ok (.aload_n 3, 1) := by decide +kernel
theorem dX3_count_24 : decode cX3_count 24 = .ok (.getfield 208, 3) := by decide +kernel
theorem dX3_count_27 : decode cX3_count 27 = .ok (.ireturn, 1) := by decide +kernel
theorem dX3_count_28 : decode cX3_count 28 = .ok (.iload_n 2, 1) := by decide +kernel
theorem dX3_count_29 : decode cX3_count 29 = .ok (.bipush 108, 2) := by decide +kernel
theorem dX3_count_31 : decode cX3_count 31 = .ok (.if_icmp .ne 8, 3) := by decide +kernel
theorem dX3_count_34 : decode cX3_count 34 = .ok (.aload_n 3, 1) := by decide +kernel
theorem dX3_count_35 : decode cX3_count 35 = .ok (.getfield 211, 3) := by decide +kernel
theorem dX3_count_38 : decode cX3_count 38 = .ok (.ireturn, 1) := by decide +kernel
theorem dX3_count_39 : decode cX3_count 39 = .ok (.iload_n 2, 1) := by decide +kernel
theorem dX3_count_40 : decode cX3_count 40 = .ok (.bipush 111, 2) := by decide +kernel
theorem dX3_count_42 : decode cX3_count 42 = .ok (.if_icmp .ne 8, 3) := by decide +kernel
theorem dX3_count_45 : decode cX3_count 45 = .ok (.aload_n 3, 1) := by decide +kernel
theorem dX3_count_46 : decode cX3_count 46 = .ok (.getfield 214, 3) := by decide +kernel
theorem dX3_count_49 : decode cX3_count 49 = .ok (.ireturn, 1) := by decide +kernel
theorem dX3_count_50 : decode cX3_count 50 = .ok (.new 34, 3) := by decide +kernel
theorem dX3_count_53 : decode cX3_count 53 = .ok (.dup, 1) := by decide +kernel
theorem dX3_count_54 : decode cX3_count 54 = .ok (.ldc 217, 2) := by decide +kernel
theorem dX3_count_56 : decode cX3_count 56 = .ok (.invokespecial 38, 3) := by decide +kernel
theorem dX3_count_59 : decode cX3_count 59 = .ok (.athrow, 1) := by decide +kernel
theorem dX3_isWithin_0 : decode cX3_isWithin 0 = .ok (.iload_n 0, 1) := by decide +kernel
theorem dX3_isWithin_1 : decode cX3_isWithin 1 = .ok (.iload_n 1, 1) := by decide +kernel
theorem dX3_isWithin_2 : decode cX3_isWithin 2 = .ok (.if_icmp .lt 12, 3) := by decide +kernel
theorem dX3_isWithin_5 : decode cX3_isWithin 5 = .ok (.iload_n 0, 1) := by decide +kernel
theorem dX3_isWithin_6 : decode cX3_isWithin 6 = .ok (.iload_n 2, 1) := by decide +kernel
theorem dX3_isWithin_7 : decode cX3_isWithin 7 = .ok (.if_icmp .gt 7, 3) := by decide +kernel
theorem dX3_isWithin_10 : decode cX3_isWithin 10 = .ok (.iconst 1, 1) := by decide +kernel
theorem dX3_isWithin_11 : decode cX3_isWithin 11 = .ok (.goto 4, 3) := by decide +kernel
theorem dX3_isWithin_14 : decode cX3_isWithin 14 = .ok (.iconst 0, 1) := by decide +kernel
theorem dX3_isWithin_15 : decode cX3_isWithin 15 = .ok (.ireturn, 1) := by decide +kernel
theorem dX3_beamlineNumbered_0 : decode cX3_beamlineNumbered 0 = .ok (.iload_n 1, 1) := by decide +kernel
theorem dX3_beamlineNumbered_1 : decode cX3_beamlineNumbered 1 = .ok (.ifCond .lt 14, 3) := by decide +kernel
theorem dX3_beamlineNumbered_4 : decode cX3_beamlineNumbered 4 = .ok (.iload_n 1, 1) := by decide +kernel
theorem dX3_beamlineNumbered_5 : decode cX3_beamlineNumbered 5 = .ok (.aload_n 0, 1) := by decide +kernel
theorem dX3_beamlineNumbered_6 : decode cX3_beamlineNumbered 6 = .ok (.getfield 10, 3) := by decide +kernel
theorem dX3_beamlineNumbered_9 : decode cX3_beamlineNumbered 9 = .ok (.invokevirtual 43, 3) := by decide +kernel
theorem dX3_beamlineNumbered_12 : decode cX3_beamlineNumbered 12 = .ok (.if_icmp .lt 13, 3) := by decide +kernel
theorem dX3_beamlineNumbered_15 : decode cX3_beamlineNumbered 15 = .ok (.new 109, 3) := by decide +kernel
theorem dX3_beamlineNumbered_18 : decode cX3_beamlineNumbered 18 = .ok (.dup, 1) := by decide +kernel
theorem dX3_beamlineNumbered_19 : decode cX3_beamlineNumbered 19 = .ok (.ldc 238, 2) := by decide +kernel
theorem dX3_beamlineNumbered_21 : decode cX3_beamlineNumbered 21 = .ok (.invokespecial 113, 3) := by decide +kernel
theorem dX3_beamlineNumbered_24 : decode cX3_beamlineNumbered 24 = .ok (.athrow, 1) := by decide +kernel
theorem dX3_beamlineNumbered_25 : decode cX3_beamlineNumbered 25 = .ok (.aload_n 0, 1) := by decide +kernel
theorem dX3_beamlineNumbered_26 : decode cX3_beamlineNumbered 26 = .ok (.getfield 10, 3) := by decide +kernel
theorem dX3_beamlineNumbered_29 : decode cX3_beamlineNumbered 29 = .ok (.iload_n 1, 1) := by decide +kernel
theorem dX3_beamlineNumbered_30 : decode cX3_beamlineNumbered 30 = .ok (.invokevirtual 224, 3) := by decide +kernel
theorem dX3_beamlineNumbered_33 : decode cX3_beamlineNumbered 33 = .ok (.checkcast 52, 3) := by decide +kernel
theorem dX3_beamlineNumbered_36 : decode cX3_beamlineNumbered 36 = .ok (.areturn, 1) := by decide +kernel
theorem dX3_proposalNumbered_0 : decode cX3_proposalNumbered 0 = .ok (.iload_n 1, 1) := by decide +kernel
theorem dX3_proposalNumbered_1 : decode cX3_proposalNumbered 1 = .ok (.ifCond .lt 14, 3) := by decide +kernel
theorem dX3_proposalNumbered_4 : decode cX3_proposalNumbered 4 = .ok (.iload_n 1, 1) := by decide +kernel
theorem dX3_proposalNumbered_5 : decode cX3_proposalNumbered 5 = .ok (.aload_n 0, 1) := by decide +kernel
theorem dX3_proposalNumbered_6 : decode cX3_proposalNumbered 6 = .ok (.getfield 16, 3) := by decide +kernel
theorem dX3_proposalNumbered_9 : decode cX3_proposalNumbered 9 = .ok (.invokevirtual 43, 3) := by decide +kernel
theorem dX3_proposalNumbered_12 : decode cX3_proposalNumbered 12 = .ok (.if_icmp .lt 13, 3) := by decide +kernel
theorem dX3_proposalNumbered_15 : decode cX3_proposalNumbered 15 = .ok (.new 109, 3) := by decide +kernel
theorem dX3_proposalNumbered_18 : decode cX3_proposalNumbered 18 = .ok (.dup, 1) := by decide +kernel
theorem dX3_proposalNumbered_19 : decode cX3_proposalNumbered 19 = .ok (.ldc 240, 2) := by decide +kernel
theorem dX3_proposalNumbered_21 : decode cX3_proposalNumbered 21 = .ok (.invokespecial 113, 3) := by decide +kernel
theorem dX3_proposalNumbered_24 : decode cX3_proposalNumbered 24 = .ok (.athrow, 1) := by decide +kernel
theorem dX3_proposalNumbered_25 : decode cX3_proposalNumbered 25 = .ok (.aload_n 0, 1) := by decide +kernel
theorem dX3_proposalNumbered_26 : decode cX3_proposalNumbered 26 = .ok (.getfield 16, 3) := by decide +kernel
theorem dX3_proposalNumbered_29 : decode cX3_proposalNumbered 29 = .ok (.iload_n 1, 1) := by decide +kernel
theorem dX3_proposalNumbered_30 : decode cX3_proposalNumbered 30 = .ok (.invokevirtual 224, 3) := by decide +kernel
theorem dX3_proposalNumbered_33 : decode cX3_proposalNumbered 33 = .ok (.checkcast 86, 3) := by decide +kernel
theorem dX3_proposalNumbered_36 : decode cX3_proposalNumbered 36 = .ok (.areturn, 1) := by decide +kernel
theorem dX3_allotAtScore_0 : decode cX3_allotAtScore 0 = .ok (.iconst 0, 1) := by decide +kernel
theorem dX3_allotAtScore_1 : decode cX3_allotAtScore 1 = .ok (.istore_n 3, 1) := by decide +kernel
theorem dX3_allotAtScore_2 : decode cX3_allotAtScore 2 = .ok (.iload_n 3, 1) := by decide +kernel
theorem dX3_allotAtScore_3 : decode cX3_allotAtScore 3 = .ok (.aload_n 0, 1) := by decide +kernel
theorem dX3_allotAtScore_4 : decode cX3_allotAtScore 4 = .ok (.getfield 16, 3) := by decide +kernel
theorem dX3_allotAtScore_7 : decode cX3_allotAtScore 7 = .ok (.invokevirtual 43, 3) := by decide +kernel
theorem dX3_allotAtScore_10 : decode cX3_allotAtScore 10 = .ok (.if_icmp .ge 46, 3) := by decide +kernel
theorem dX3_allotAtScore_13 : decode cX3_allotAtScore 13 = .ok (.aload_n 0, 1) := by decide +kernel
theorem dX3_allotAtScore_14 : decode cX3_allotAtScore 14 = .ok (.getfield 16, 3) := by decide +kernel
theorem dX3_allotAtScore_17 : decode cX3_allotAtScore 17 = .ok (.iload_n 3, 1) := by decide +kernel
theorem dX3_allotAtScore_18 : decode cX3_allotAtScore 18 = .ok (.invokevirtual 224, 3) := by decide +kernel
theorem dX3_allotAtScore_21 : decode cX3_allotAtScore 21 = .ok (.checkcast 86, 3) := by decide +kernel
theorem dX3_allotAtScore_24 : decode cX3_allotAtScore 24 = .ok (.astore 4, 2) := by decide +kernel
theorem dX3_allotAtScore_26 : decode cX3_allotAtScore 26 = .ok (.aload 4, 2) := by decide +kernel
theorem dX3_allotAtScore_28 : decode cX3_allotAtScore 28 = .ok (.getfield 183, 3) := by decide +kernel
theorem dX3_allotAtScore_31 : decode cX3_allotAtScore 31 = .ok (.aload_n 1, 1) := by decide +kernel
theorem dX3_allotAtScore_32 : decode cX3_allotAtScore 32 = .ok (.if_acmp .ne 18, 3) := by decide +kernel
theorem dX3_allotAtScore_35 : decode cX3_allotAtScore 35 = .ok (.aload 4, 2) := by decide +kernel
theorem dX3_allotAtScore_37 : decode cX3_allotAtScore 37 = .ok (.getfield 233, 3) := by decide +kernel
theorem dX3_allotAtScore_40 : decode cX3_allotAtScore 40 = .ok (.iload_n 2, 1) := by decide +kernel
theorem dX3_allotAtScore_41 : decode cX3_allotAtScore 41 = .ok (.if_icmp .ne 9, 3) := by decide +kernel
theorem dX3_allotAtScore_44 : decode cX3_allotAtScore 44 = .ok (.aload_n 1, 1) := by decide +kernel
theorem dX3_allotAtScore_45 : decode cX3_allotAtScore 45 = .ok (.aload 4, 2) := by decide +kernel
theorem dX3_allotAtScore_47 : decode cX3_allotAtScore 47 = .ok (.invokevirtual 242, 3) := by decide +kernel
theorem dX3_allotAtScore_50 : decode cX3_allotAtScore 50 = .ok (.iinc 3 1, 3) := by decide +kernel
theorem dX3_allotAtScore_53 : decode cX3_allotAtScore 53 = .ok (.goto (-51), 3) := by decide +kernel
theorem dX3_allotAtScore_56 : decode cX3_allotAtScore 56 = .ok (.return_, 1) := by decide +kernel
theorem dX3_countCold_0 : decode cX3_countCold 0 = .ok (.iconst 0, 1) := by decide +kernel
theorem dX3_countCold_1 : decode cX3_countCold 1 = .ok (.istore_n 1, 1) := by decide +kernel
theorem dX3_countCold_2 : decode cX3_countCold 2 = .ok (.iconst 0, 1) := by decide +kernel
theorem dX3_countCold_3 : decode cX3_countCold 3 = .ok (.istore_n 2, 1) := by decide +kernel
theorem dX3_countCold_4 : decode cX3_countCold 4 = .ok (.iload_n 2, 1) := by decide +kernel
theorem dX3_countCold_5 : decode cX3_countCold 5 = .ok (.aload_n 0, 1) := by decide +kernel
theorem dX3_countCold_6 : decode cX3_countCold 6 = .ok (.getfield 16, 3) := by decide +kernel
theorem dX3_countCold_9 : decode cX3_countCold 9 = .ok (.invokevirtual 43, 3) := by decide +kernel
theorem dX3_countCold_12 : decode cX3_countCold 12 = .ok (.if_icmp .ge 29, 3) := by decide +kernel
theorem dX3_countCold_15 : decode cX3_countCold 15 = .ok (.aload_n 0, 1) := by decide +kernel
theorem dX3_countCold_16 : decode cX3_countCold 16 = .ok (.getfield 16, 3) := by decide +kernel
theorem dX3_countCold_19 : decode cX3_countCold 19 = .ok (.iload_n 2, 1) := by decide +kernel
theorem dX3_countCold_20 : decode cX3_countCold 20 = .ok (.invokevirtual 224, 3) := by decide +kernel
theorem dX3_countCold_23 : decode cX3_countCold 23 = .ok (.checkcast 86, 3) := by decide +kernel
theorem dX3_countCold_26 : decode cX3_countCold 26 = .ok (.invokevirtual 140, 3) := by decide +kernel
theorem dX3_countCold_29 : decode cX3_countCold 29 = .ok (.ifCond .eq 6, 3) := by decide +kernel
theorem dX3_countCold_32 : decode cX3_countCold 32 = .ok (.iinc 1 1, 3) := by decide +kernel
theorem dX3_countCold_35 : decode cX3_countCold 35 = .ok (.iinc 2 1, 3) := by decide +kernel
theorem dX3_countCold_38 : decode cX3_countCold 38 = .ok (.goto (-34), 3) := by decide +kernel
theorem dX3_countCold_41 : decode cX3_countCold 41 = .ok (.iload_n 1, 1) := by decide +kernel
theorem dX3_countCold_42 : decode cX3_countCold 42 = .ok (.ireturn, 1) := by decide +kernel
theorem dX3_leftKept_0 : decode cX3_leftKept 0 = .ok (.aload_n 0, 1) := by decide +kernel
theorem dX3_leftKept_1 : decode cX3_leftKept 1 = .ok (.getfield 183, 3) := by decide +kernel
theorem dX3_leftKept_4 : decode cX3_leftKept 4 = .ok (.getfield 100, 3) := by decide +kernel
theorem dX3_leftKept_7 : decode cX3_leftKept 7 = .ok (.aload_n 0, 1) := by decide +kernel
theorem dX3_leftKept_8 : decode cX3_leftKept 8 = .ok (.getfield 193, 3) := by decide +kernel
theorem dX3_leftKept_11 : decode cX3_leftKept 11 = .ok (.invokevirtual 196, 3) := by decide +kernel
theorem dX3_leftKept_14 : decode cX3_leftKept 14 = .ok (.ireturn, 1) := by decide +kernel
theorem dX3_isMarked_0 : decode cX3_isMarked 0 = .ok (.iload_n 1, 1) := by decide +kernel
theorem dX3_isMarked_1 : decode cX3_isMarked 1 = .ok (.ifCond .lt 19, 3) := by decide +kernel
theorem dX3_isMarked_4 : decode cX3_isMarked 4 = .ok (.iload_n 1, 1) := by decide +kernel
theorem dX3_isMarked_5 : decode cX3_isMarked 5 = .ok (.aload_n 0, 1) := by decide +kernel
theorem dX3_isMarked_6 : decode cX3_isMarked 6 = .ok (.arraylength, 1) := by decide +kernel
theorem dX3_isMarked_7 : decode cX3_isMarked 7 = .ok (.if_icmp .ge 13, 3) := by decide +kernel
theorem dX3_isMarked_10 : decode cX3_isMarked 10 = .ok (.aload_n 0, 1) := by decide +kernel
theorem dX3_isMarked_11 : decode cX3_isMarked 11 = .ok (.iload_n 1, 1) := by decide +kernel
theorem dX3_isMarked_12 : decode cX3_isMarked 12 = .ok (.baload, 1) := by decide +kernel
theorem dX3_isMarked_13 : decode cX3_isMarked 13 = .ok (.ifCond .eq 7, 3) := by decide +kernel
theorem dX3_isMarked_16 : decode cX3_isMarked 16 = .ok (.iconst 1, 1) := by decide +kernel
theorem dX3_isMarked_17 : decode cX3_isMarked 17 = .ok (.goto 4, 3) := by decide +kernel
theorem dX3_isMarked_20 : decode cX3_isMarked 20 = .ok (.iconst 0, 1) := by decide +kernel
theorem dX3_isMarked_21 : decode cX3_isMarked 21 = .ok (.ireturn, 1) := by decide +kernel
theorem dX3_reasonAt_0 : decode cX3_reasonAt 0 = .ok (.aload_n 1, 1) := by decide +kernel
theorem dX3_reasonAt_1 : decode cX3_reasonAt 1 = .ok (.invokevirtual 151, 3) := by decide +kernel
theorem dX3_reasonAt_4 : decode cX3_reasonAt 4 = .ok (.astore_n 2, 1) := by decide +kernel
theorem dX3_reasonAt_5 : decode cX3_reasonAt 5 = .ok (.aload_n 2, 1) := by decide +kernel
theorem dX3_reasonAt_6 : decode cX3_reasonAt 6 = .ok (.ifnonnull 6, 3) := by decide +kernel
theorem dX3_reasonAt_9 : decode cX3_reasonAt 9 = .ok (.bipush 113, 2) := by decide +kernel
theorem dX3_reasonAt_11 : decode cX3_reasonAt 11 = .ok (.ireturn, 1) := by decide +kernel
theorem dX3_reasonAt_12 : decode cX3_reasonAt 12 = .ok (.aload_n 1, 1) := by decide +kernel
theorem dX3_reasonAt_13 : decode cX3_reasonAt 13 = .ok (.getfield 164, 3) := by decide +kernel
theorem dX3_reasonAt_16 : decode cX3_reasonAt 16 = .ok (.ifCond .eq 6, 3) := by decide +kernel
theorem dX3_reasonAt_19 : decode cX3_reasonAt 19 = .ok (.bipush 102, 2) := by decide +kernel
theorem dX3_reasonAt_21 : decode cX3_reasonAt 21 = .ok (.ireturn, 1) := by decide +kernel
theorem dX3_reasonAt_22 : decode cX3_reasonAt 22 = .ok (.aload_n 0, 1) := by decide +kernel
theorem dX3_reasonAt_23 : decode cX3_reasonAt 23 = .ok (.getfield 19, 3) := by decide +kernel
theorem dX3_reasonAt_26 : decode cX3_reasonAt 26 = .ok (.aload_n 2, 1) := by decide +kernel
theorem dX3_reasonAt_27 : decode cX3_reasonAt 27 = .ok (.getfield 246, 3) := by decide +kernel
theorem dX3_reasonAt_30 : decode cX3_reasonAt 30 = .ok (.invokestatic 249, 3) := by decide +kernel
theorem dX3_reasonAt_33 : decode cX3_reasonAt 33 = .ok (.ifCond .ne 6, 3) := by decide +kernel
theorem dX3_reasonAt_36 : decode cX3_reasonAt 36 = .ok (.bipush 116, 2) := by decide +kernel
theorem dX3_reasonAt_38 : decode cX3_reasonAt 38 = .ok (.ireturn, 1) := by decide +kernel
theorem dX3_reasonAt_39 : decode cX3_reasonAt 39 = .ok (.aload_n 0, 1) := by decide +kernel
theorem dX3_reasonAt_40 : decode cX3_reasonAt 40 = .ok (.getfield 23, 3) := by decide +kernel
theorem dX3_reasonAt_43 : decode cX3_reasonAt 43 = .ok (.aload_n 2, 1) := by decide +kernel
theorem dX3_reasonAt_44 : decode cX3_reasonAt 44 = .ok (.getfield 246, 3) := by decide +kernel
theorem dX3_reasonAt_47 : decode cX3_reasonAt 47 = .ok (.invokestatic 249, 3) := by decide +kernel
theorem dX3_reasonAt_50 : decode cX3_reasonAt 50 = .ok (.ifCond .ne 6, 3) := by decide +kernel
theorem dX3_reasonAt_53 : decode cX3_reasonAt 53 = .ok (.bipush 112, 2) := by decide +kernel
theorem dX3_reasonAt_55 : decode cX3_reasonAt 55 = .ok (.ireturn, 1) := by decide +kernel
theorem dX3_reasonAt_56 : decode cX3_reasonAt 56 = .ok (.aload_n 2, 1) := by decide +kernel
theorem dX3_reasonAt_57 : decode cX3_reasonAt 57 = .ok (.invokevirtual 253, 3) := by decide +kernel
theorem dX3_reasonAt_60 : decode cX3_reasonAt 60 = .ok (.ifCond .ne 6, 3) := by decide +kernel
theorem dX3_reasonAt_63 : decode cX3_reasonAt 63 = .ok (.bipush 115, 2) := by decide +kernel
theorem dX3_reasonAt_65 : decode cX3_reasonAt 65 = .ok (.ireturn, 1) := by decide +kernel
theorem dX3_reasonAt_66 : decode cX3_reasonAt 66 = .ok (.aload_n 2, 1) := by decide +kernel
theorem dX3_reasonAt_67 : decode cX3_reasonAt 67 = .ok (.getfield 256, 3) := by decide +kernel
theorem dX3_reasonAt_70 : decode cX3_reasonAt 70 = .ok (.aload_n 1, 1) := by decide +kernel
theorem dX3_reasonAt_71 : decode cX3_reasonAt 71 = .ok (.getfield 259, 3) := by decide +kernel
theorem dX3_reasonAt_74 : decode cX3_reasonAt 74 = .ok (.aload_n 1, 1) := by decide +kernel
theorem dX3_reasonAt_75 : decode cX3_reasonAt 75 = .ok (.getfield 176, 3) := by decide +kernel
theorem dX3_reasonAt_78 : decode cX3_reasonAt 78 = .ok (.isub, 1) := by decide +kernel
theorem dX3_reasonAt_79 : decode cX3_reasonAt 79 = .ok (.if_icmp .le 6, 3) := by decide +kernel
theorem dX3_reasonAt_82 : decode cX3_reasonAt 82 = .ok (.bipush 100, 2) := by decide +kernel
theorem dX3_reasonAt_84 : decode cX3_reasonAt 84 = .ok (.ireturn, 1) := by decide +kernel
theorem dX3_reasonAt_85 : decode cX3_reasonAt 85 = .ok (.bipush 45, 2) := by decide +kernel
theorem dX3_reasonAt_87 : decode cX3_reasonAt 87 = .ok (.ireturn, 1) := by decide +kernel
theorem dX3_kindFor_0 : decode cX3_kindFor 0 = .ok (.iload_n 0, 1) := by decide +kernel
theorem dX3_kindFor_1 : decode cX3_kindFor 1 = .ok (.bipush 45, 2) := by decide +kernel
theorem dX3_kindFor_3 : decode cX3_kindFor 3 = .ok (.if_icmp .ne 6, 3) := by decide +kernel
theorem dX3_kindFor_6 : decode cX3_kindFor 6 = .ok (.bipush 100, 2) := by decide +kernel
theorem dX3_kindFor_8 : decode cX3_kindFor 8 = .ok (.ireturn, 1) := by decide +kernel
theorem dX3_kindFor_9 : decode cX3_kindFor 9 = .ok (.iload_n 0, 1) := by decide +kernel
theorem dX3_kindFor_10 : decode cX3_kindFor 10 = .ok (.bipush 113, 2) := by decide +kernel
theorem dX3_kindFor_12 : decode cX3_kindFor 12 = .ok (.if_icmp .ne 6, 3) := by decide +kernel
theorem dX3_kindFor_15 : decode cX3_kindFor 15 = .ok (.bipush 105, 2) := by decide +kernel
theorem dX3_kindFor_17 : decode cX3_kindFor 17 = .ok (.ireturn, 1) := by decide +kernel
theorem dX3_kindFor_18 : decode cX3_kindFor 18 = .ok (.iload_n 0, 1) := by decide +kernel
theorem dX3_kindFor_19 : decode cX3_kindFor 19 = .ok (.bipush 102, 2) := by decide +kernel
theorem dX3_kindFor_21 : decode cX3_kindFor 21 = .ok (.if_icmp .ne 6, 3) := by decide +kernel
theorem dX3_kindFor_24 : decode cX3_kindFor 24 = .ok (.bipush 108, 2) := by decide +kernel
theorem dX3_kindFor_26 : decode cX3_kindFor 26 = .ok (.ireturn, 1) := by decide +kernel
theorem dX3_kindFor_27 : decode cX3_kindFor 27 = .ok (.bipush 109, 2) := by decide +kernel
theorem dX3_kindFor_29 : decode cX3_kindFor 29 = .ok (.ireturn, 1) := by decide +kernel
theorem dX3_passOne_0 : decode cX3_passOne 0 = .ok (.iconst 0, 1) := by decide +kernel
theorem dX3_passOne_1 : decode cX3_passOne 1 = .ok (.istore_n 1, 1) := by decide +kernel
theorem dX3_passOne_2 : decode cX3_passOne 2 = .ok (.iconst 0, 1) := by decide +kernel
theorem dX3_passOne_3 : decode cX3_passOne 3 = .ok (.istore_n 2, 1) := by decide +kernel
theorem dX3_passOne_4 : decode cX3_passOne 4 = .ok (.iload_n 2, 1) := by decide +kernel
theorem dX3_passOne_5 : decode cX3_passOne 5 = .ok (.aload_n 0, 1) := by decide +kernel
theorem dX3_passOne_6 : decode cX3_passOne 6 = .ok (.getfield 10, 3) := by decide +kernel
theorem dX3_passOne_9 : decode cX3_passOne 9 = .ok (.invokevirtual 43, 3) := by decide +kernel
theorem dX3_passOne_12 : decode cX3_passOne 12 = .ok (.if_icmp .ge 47, 3) := by decide +kernel
theorem dX3_passOne_15 : decode cX3_passOne 15 = .ok (.aload_n 0, 1) := by decide +kernel
theorem dX3_passOne_16 : decode cX3_passOne 16 = .ok (.getfield 10, 3) := by decide +kernel
theorem dX3_passOne_19 : decode cX3_passOne 19 = .ok (.iload_n 2, 1) := by decide +kernel
theorem dX3_passOne_20 : decode cX3_passOne 20 = .ok (.invokevirtual 224, 3) := by decide +kernel
theorem dX3_passOne_23 : decode cX3_passOne 23 = .ok (.checkcast 52, 3) := by decide +kernel
theorem dX3_passOne_26 : decode cX3_passOne 26 = .ok (.astore_n 3, 1) := by decide +kernel
theorem dX3_passOne_27 : decode cX3_passOne 27 = .ok (.aload_n 0, 1) := by decide +kernel
theorem dX3_passOne_28 : decode cX3_passOne 28 = .ok (.aload_n 3, 1) := by decide +kernel
theorem dX3_passOne_29 : decode cX3_passOne 29 = .ok (.invokevirtual 160, 3) := by decide +kernel
theorem dX3_passOne_32 : decode cX3_passOne 32 = .ok (.invokestatic 262, 3) := by decide +kernel
theorem dX3_passOne_35 : decode cX3_passOne 35 = .ok (.istore 4, 2) := by decide +kernel
theorem dX3_passOne_37 : decode cX3_passOne 37 = .ok (.aload_n 3, 1) := by decide +kernel
theorem dX3_passOne_38 : decode cX3_passOne 38 = .ok (.iload 4, 2) := by decide +kernel
theorem dX3_passOne_40 : decode cX3_passOne 40 = .ok (.invokevirtual 266, 3) := by decide +kernel
theorem dX3_passOne_43 : decode cX3_passOne 43 = .ok (.iload 4, 2) := by decide +kernel
theorem dX3_passOne_45 : decode cX3_passOne 45 = .ok (.bipush 100, 2) := by decide +kernel
theorem dX3_passOne_47 : decode cX3_passOne 47 = .ok (.if_icmp .ne 6, 3) := by decide +kernel
theorem dX3_passOne_50 : decode cX3_passOne 50 = .ok (.iinc 1 1, 3) := by decide +kernel
theorem dX3_passOne_53 : decode cX3_passOne 53 = .ok (.iinc 2 1, 3) := by decide +kernel
theorem dX3_passOne_56 : decode cX3_passOne 56 = .ok (.goto (-52), 3) := by decide +kernel
theorem dX3_passOne_59 : decode cX3_passOne 59 = .ok (.iconst 0, 1) := by decide +kernel
theorem dX3_passOne_60 : decode cX3_passOne 60 = .ok (.istore_n 2, 1) := by decide +kernel
theorem dX3_passOne_61 : decode cX3_passOne 61 = .ok (.iload_n 2, 1) := by decide +kernel
theorem dX3_passOne_62 : decode cX3_passOne 62 = .ok (.aload_n 0, 1) := by decide +kernel
theorem dX3_passOne_63 : decode cX3_passOne 63 = .ok (.getfield 16, 3) := by decide +kernel
theorem dX3_passOne_66 : decode cX3_passOne 66 = .ok (.invokevirtual 43, 3) := by decide +kernel
theorem dX3_passOne_69 : decode cX3_passOne 69 = .ok (.if_icmp .ge 23, 3) := by decide +kernel
theorem dX3_passOne_72 : decode cX3_passOne 72 = .ok (.aload_n 0, 1) := by decide +kernel
theorem dX3_passOne_73 : decode cX3_passOne 73 = .ok (.getfield 16, 3) := by decide +kernel
theorem dX3_passOne_76 : decode cX3_passOne 76 = .ok (.iload_n 2, 1) := by decide +kernel
theorem dX3_passOne_77 : decode cX3_passOne 77 = .ok (.invokevirtual 224, 3) := by decide +kernel
theorem dX3_passOne_80 : decode cX3_passOne 80 = .ok (.checkcast 86, 3) := by decide +kernel
theorem dX3_passOne_83 : decode cX3_passOne 83 = .ok (.invokevirtual 270, 3) := by decide +kernel
theorem dX3_passOne_86 : decode cX3_passOne 86 = .ok (.iinc 2 1, 3) := by decide +kernel
theorem dX3_passOne_89 : decode cX3_passOne 89 = .ok (.goto (-28), 3) := by decide +kernel
theorem dX3_passOne_92 : decode cX3_passOne 92 = .ok (.aload_n 0, 1) := by decide +kernel
theorem dX3_passOne_93 : decode cX3_passOne 93 = .ok (.dup, 1) := by decide +kernel
theorem dX3_passOne_94 : decode cX3_passOne 94 = .ok (.getfield 26, 3) := by decide +kernel
theorem dX3_passOne_97 : decode cX3_passOne 97 = .ok (.iconst 1, 1) := by decide +kernel
theorem dX3_passOne_98 : decode cX3_passOne 98 = .ok (.iadd, 1) := by decide +kernel
theorem dX3_passOne_99 : decode cX3_passOne 99 = .ok (.putfield 26, 3) := by decide +kernel
theorem dX3_passOne_102 : decode cX3_passOne 102 = .ok (.iload_n 1, 1) := by decide +kernel
theorem dX3_passOne_103 : decode cX3_passOne 103 = .ok (.ireturn, 1) := by decide +kernel
theorem dJx00060_init_a7421_0 : decode cJx00060_init_a7421 0 = .ok (.aload_n 0, 1) := by decide +kernel
theorem dJx00060_init_a7421_1 : decode cJx00060_init_a7421 1 = .ok (.aload_n 1, 1) := by decide +kernel
theorem dJx00060_init_a7421_2 : decode cJx00060_init_a7421 2 = .ok (.invokespecial 7, 3) := by decide +kernel
theorem dJx00060_init_a7421_5 : decode cJx00060_init_a7421 5 = .ok (.return_, 1) := by decide +kernel
theorem dJ9_max_7cf53_0 : decode cJ9_max_7cf53 0 = .ok (.iload_n 0, 1) := by decide +kernel
theorem dJ9_max_7cf53_1 : decode cJ9_max_7cf53 1 = .ok (.iload_n 1, 1) := by decide +kernel
theorem dJ9_max_7cf53_2 : decode cJ9_max_7cf53 2 = .ok (.if_icmp .lt 7, 3) := by decide +kernel
theorem dJ9_max_7cf53_5 : decode cJ9_max_7cf53 5 = .ok (.iload_n 0, 1) := by decide +kernel
theorem dJ9_max_7cf53_6 : decode cJ9_max_7cf53 6 = .ok (.goto 4, 3) := by decide +kernel
theorem dJ9_max_7cf53_9 : decode cJ9_max_7cf53 9 = .ok (.iload_n 1, 1) := by decide +kernel
theorem dJ9_max_7cf53_10 : decode cJ9_max_7cf53 10 = .ok (.ireturn, 1) := by decide +kernel
theorem dJ9_min_7cf53_0 : decode cJ9_min_7cf53 0 = .ok (.iload_n 0, 1) := by decide +kernel
theorem dJ9_min_7cf53_1 : decode cJ9_min_7cf53 1 = .ok (.iload_n 1, 1) := by decide +kernel
theorem dJ9_min_7cf53_2 : decode cJ9_min_7cf53 2 = .ok (.if_icmp .gt 7, 3) := by decide +kernel
theorem dJ9_min_7cf53_5 : decode cJ9_min_7cf53 5 = .ok (.iload_n 0, 1) := by decide +kernel
theorem dJ9_min_7cf53_6 : decode cJ9_min_7cf53 6 = .ok (.goto 4, 3) := by decide +kernel
theorem dJ9_min_7cf53_9 : decode cJ9_min_7cf53 9 = .ok (.iload_n 1, 1) := by decide +kernel
theorem dJ9_min_7cf53_10 : decode cJ9_min_7cf53 10 = .ok (.ireturn, 1) := by decide +kernel
theorem dJ0_charAt_5068e_0 : decode cJ0_charAt_5068e 0 = .ok (.aload_n 0, 1) := by decide +kernel
theorem dJ0_charAt_5068e_1 : decode cJ0_charAt_5068e 1 = .ok (.invokevirtual 492, 3) := by decide +kernel
theorem dJ0_charAt_5068e_4 : decode cJ0_charAt_5068e 4 = .ok (.ifCond .eq 12, 3) := by decide +kernel
theorem dJ0_charAt_5068e_7 : decode cJ0_charAt_5068e 7 = .ok (.aload_n 0, 1) := by decide +kernel
theorem dJ0_charAt_5068e_8 : decode cJ0_charAt_5068e 8 = .ok (.getfield 9, 3) := by decide +kernel
theorem dJ0_charAt_5068e_11 : decode cJ0_charAt_5068e 11 = .ok (.iload_n 1, 1) := by decide +kernel
theorem dJ0_charAt_5068e_12 : decode cJ0_charAt_5068e 12 = .ok (.invokestatic 495, 3) := by decide +kernel
theorem dJ0_charAt_5068e_15 : decode cJ0_charAt_5068e 15 = .ok (.ireturn, 1) := by decide +kernel
theorem dJ0_charAt_5068e_16 : decode cJ0_charAt_5068e 16 = .ok (.aload_n 0, 1) := by decide +kernel
theorem dJ0_charAt_5068e_17 : decode cJ0_charAt_5068e 17 = .ok (.getfield 9, 3) := by decide +kernel
theorem dJ0_charAt_5068e_20 : decode cJ0_charAt_5068e 20 = .ok (.iload_n 1, 1) := by decide +kernel
theorem dJ0_charAt_5068e_21 : decode cJ0_charAt_5068e 21 = .ok (.invokestatic 498, 3) := by decide +kernel
theorem dJ0_charAt_5068e_24 : decode cJ0_charAt_5068e 24 = .ok (.ireturn, 1) := by decide +kernel
theorem dJ0_isLatin1_aae02_0 : decode cJ0_isLatin1_aae02 0 = .ok (.getstatic 38, 3) := by decide +kernel
theorem dJ0_isLatin1_aae02_3 : decode cJ0_isLatin1_aae02 3 = .ok (.ifCond .eq 14, 3) := by decide +kernel
theorem dJ0_isLatin1_aae02_6 : decode cJ0_isLatin1_aae02 6 = .ok (.aload_n 0, 1) := by decide +kernel
theorem dJ0_isLatin1_aae02_7 : decode cJ0_isLatin1_aae02 7 = .ok (.getfield 15, 3) := by decide +kernel
theorem dJ0_isLatin1_aae02_10 : decode cJ0_isLatin1_aae02 10 = .ok (.ifCond .ne 7, 3) := by decide +kernel
theorem dJ0_isLatin1_aae02_13 : decode cJ0_isLatin1_aae02 13 = .ok (.iconst 1, 1) := by decide +kernel
theorem dJ0_isLatin1_aae02_14 : decode cJ0_isLatin1_aae02 14 = .ok (.goto 4, 3) := by decide +kernel
theorem dJ0_isLatin1_aae02_17 : decode cJ0_isLatin1_aae02 17 = .ok (.iconst 0, 1) := by decide +kernel
theorem dJ0_isLatin1_aae02_18 : decode cJ0_isLatin1_aae02 18 = .ok (.ireturn, 1) := by decide +kernel
theorem dJ0_checkIndex_df160_0 : decode cJ0_checkIndex_df160 0 = .ok (.iload_n 0, 1) := by decide +kernel
theorem dJ0_checkIndex_df160_1 : decode cJ0_checkIndex_df160 1 = .ok (.iload_n 1, 1) := by decide +kernel
theorem dJ0_checkIndex_df160_2 : decode cJ0_checkIndex_df160 2 = .ok (.getstatic 1053, 3) := by decide +kernel
theorem dJ0_checkIndex_df160_5 : decode cJ0_checkIndex_df160 5 = .ok (.invokestatic 1059, 3) := by decide +kernel
theorem dJ0_checkIndex_df160_8 : decode cJ0_checkIndex_df160 8 = .ok (.pop, 1) := by decide +kernel
theorem dJ0_checkIndex_df160_9 : decode cJ0_checkIndex_df160 9 = .ok (.return_, 1) := by decide +kernel
theorem dJ1_charAt_3b067_0 : decode cJ1_charAt_3b067 0 = .ok (.iload_n 1, 1) := by decide +kernel
theorem dJ1_charAt_3b067_1 : decode cJ1_charAt_3b067 1 = .ok (.aload_n 0, 1) := by decide +kernel
theorem dJ1_charAt_3b067_2 : decode cJ1_charAt_3b067 2 = .ok (.arraylength, 1) := by decide +kernel
theorem dJ1_charAt_3b067_3 : decode cJ1_charAt_3b067 3 = .ok (.invokestatic 9, 3) := by decide +kernel
theorem dJ1_charAt_3b067_6 : decode cJ1_charAt_3b067 6 = .ok (.aload_n 0, 1) := by decide +kernel
theorem dJ1_charAt_3b067_7 : decode cJ1_charAt_3b067 7 = .ok (.iload_n 1, 1) := by decide +kernel
theorem dJ1_charAt_3b067_8 : decode cJ1_charAt_3b067 8 = .ok (.baload, 1) := by decide +kernel
theorem dJ1_charAt_3b067_9 : decode cJ1_charAt_3b067 9 = .ok (.sipush 255, 3) := by decide +kernel
theorem dJ1_charAt_3b067_12 : decode cJ1_charAt_3b067 12 = .ok (.iand, 1) := by decide +kernel
theorem dJ1_charAt_3b067_13 : decode cJ1_charAt_3b067 13 = .ok (.i2c, 1) := by decide +kernel
theorem dJ1_charAt_3b067_14 : decode cJ1_charAt_3b067 14 = .ok (.ireturn, 1) := by decide +kernel
theorem dJ2_getChar_3b067_0 : decode cJ2_getChar_3b067 0 = .ok (.getstatic 44, 3) := by decide +kernel
theorem dJ2_getChar_3b067_3 : decode cJ2_getChar_3b067 3 = .ok (.ifCond .ne 25, 3) := by decide +kernel
theorem dJ2_getChar_3b067_6 : decode cJ2_getChar_3b067 6 = .ok (.iload_n 1, 1) := by decide +kernel
theorem dJ2_getChar_3b067_7 : decode cJ2_getChar_3b067 7 = .ok (.ifCond .lt 11, 3) := by decide +kernel
theorem dJ2_getChar_3b067_10 : decode cJ2_getChar_3b067 10 = .ok (.iload_n 1, 1) := by decide +kernel
theorem dJ2_getChar_3b067_11 : decode cJ2_getChar_3b067 11 = .ok (.aload_n 0, 1) := by decide +kernel
theorem dJ2_getChar_3b067_12 : decode cJ2_getChar_3b067 12 = .ok (.invokestatic 48, 3) := by decide +kernel
theorem dJ2_getChar_3b067_15 : decode cJ2_getChar_3b067 15 = .ok (.if_icmp .lt 13, 3) := by decide +kernel
theorem dJ2_getChar_3b067_18 : decode cJ2_getChar_3b067 18 = .ok (.new 52, 3) := by decide +kernel
theorem dJ2_getChar_3b067_21 : decode cJ2_getChar_3b067 21 = .ok (.dup, 1) := by decide +kernel
theorem dJ2_getChar_3b067_22 : decode cJ2_getChar_3b067 22 = .ok (.ldc 54, 2) := by decide +kernel
theorem dJ2_getChar_3b067_24 : decode cJ2_getChar_3b067 24 = .ok (.invokespecial 56, 3) := by decide +kernel
theorem dJ2_getChar_3b067_27 : decode cJ2_getChar_3b067 27 = .ok (.athrow, 1) := by decide +kernel
theorem dJ2_getChar_3b067_28 : decode cJ2_getChar_3b067 28 = .ok (.iload_n 1, 1) := by decide +kernel
theorem dJ2_getChar_3b067_29 : decode cJ2_getChar_3b067 29 = .ok (.iconst 1, 1) := by decide +kernel
theorem dJ2_getChar_3b067_30 : decode cJ2_getChar_3b067 30 = .ok (.ishl, 1) := by decide +kernel
theorem dJ2_getChar_3b067_31 : decode cJ2_getChar_3b067 31 = .ok (.istore_n 1, 1) := by decide +kernel
theorem dJ2_getChar_3b067_32 : decode cJ2_getChar_3b067 32 = .ok (.aload_n 0, 1) := by decide +kernel
theorem dJ2_getChar_3b067_33 : decode cJ2_getChar_3b067 33 = .ok (.iload_n 1, 1) := by decide +kernel
theorem dJ2_getChar_3b067_34 : decode cJ2_getChar_3b067 34 = .ok (.iinc 1 1, 3) := by decide +kernel
theorem dJ2_getChar_3b067_37 : decode cJ2_getChar_3b067 37 = .ok (.baload, 1) := by decide +kernel
theorem dJ2_getChar_3b067_38 : decode cJ2_getChar_3b067 38 = .ok (.sipush 255, 3) := by decide +kernel
theorem dJ2_getChar_3b067_41 : decode cJ2_getChar_3b067 41 = .ok (.iand, 1) := by decide +kernel
theorem dJ2_getChar_3b067_42 : decode cJ2_getChar_3b067 42 = .ok (.getstatic 59, 3) := by decide +kernel
theorem dJ2_getChar_3b067_45 : decode cJ2_getChar_3b067 45 = .ok (.ishl, 1) := by decide +kernel
theorem dJ2_getChar_3b067_46 : decode cJ2_getChar_3b067 46 = .ok (.aload_n 0, 1) := by decide +kernel
theorem dJ2_getChar_3b067_47 : decode cJ2_getChar_3b067 47 = .ok (.iload_n 1, 1) := by decide +kernel
theorem dJ2_getChar_3b067_48 : decode cJ2_getChar_3b067 48 = .ok (.baload, 1) := by decide +kernel
theorem dJ2_getChar_3b067_49 : decode cJ2_getChar_3b067 49 = .ok (.sipush 255, 3) := by decide +kernel
theorem dJ2_getChar_3b067_52 : decode cJ2_getChar_3b067 52 = .ok (.iand, 1) := by decide +kernel
theorem dJ2_getChar_3b067_53 : decode cJ2_getChar_3b067 53 = .ok (.getstatic 63, 3) := by decide +kernel
theorem dJ2_getChar_3b067_56 : decode cJ2_getChar_3b067 56 = .ok (.ishl, 1) := by decide +kernel
theorem dJ2_getChar_3b067_57 : decode cJ2_getChar_3b067 57 = .ok (.ior, 1) := by decide +kernel
theorem dJ2_getChar_3b067_58 : decode cJ2_getChar_3b067 58 = .ok (.i2c, 1) := by decide +kernel
theorem dJ2_getChar_3b067_59 : decode cJ2_getChar_3b067 59 = .ok (.ireturn, 1) := by decide +kernel
theorem dJ2_length_9d52b_0 : decode cJ2_length_9d52b 0 = .ok (.aload_n 0, 1) := by decide +kernel
theorem dJ2_length_9d52b_1 : decode cJ2_length_9d52b 1 = .ok (.arraylength, 1) := by decide +kernel
theorem dJ2_length_9d52b_2 : decode cJ2_length_9d52b 2 = .ok (.iconst 1, 1) := by decide +kernel
theorem dJ2_length_9d52b_3 : decode cJ2_length_9d52b 3 = .ok (.ishr, 1) := by decide +kernel
theorem dJ2_length_9d52b_4 : decode cJ2_length_9d52b 4 = .ok (.ireturn, 1) := by decide +kernel
theorem dJ2_charAt_3b067_0 : decode cJ2_charAt_3b067 0 = .ok (.iload_n 1, 1) := by decide +kernel
theorem dJ2_charAt_3b067_1 : decode cJ2_charAt_3b067 1 = .ok (.aload_n 0, 1) := by decide +kernel
theorem dJ2_charAt_3b067_2 : decode cJ2_charAt_3b067 2 = .ok (.invokestatic 67, 3) := by decide +kernel
theorem dJ2_charAt_3b067_5 : decode cJ2_charAt_3b067 5 = .ok (.aload_n 0, 1) := by decide +kernel
theorem dJ2_charAt_3b067_6 : decode cJ2_charAt_3b067 6 = .ok (.iload_n 1, 1) := by decide +kernel
theorem dJ2_charAt_3b067_7 : decode cJ2_charAt_3b067 7 = .ok (.invokestatic 71, 3) := by decide +kernel
theorem dJ2_charAt_3b067_10 : decode cJ2_charAt_3b067 10 = .ok (.ireturn, 1) := by decide +kernel
theorem dJ2_checkIndex_2214a_0 : decode cJ2_checkIndex_2214a 0 = .ok (.iload_n 0, 1) := by decide +kernel
theorem dJ2_checkIndex_2214a_1 : decode cJ2_checkIndex_2214a 1 = .ok (.aload_n 1, 1) := by decide +kernel
theorem dJ2_checkIndex_2214a_2 : decode cJ2_checkIndex_2214a 2 = .ok (.invokestatic 48, 3) := by decide +kernel
theorem dJ2_checkIndex_2214a_5 : decode cJ2_checkIndex_2214a 5 = .ok (.invokestatic 414, 3) := by decide +kernel
theorem dJ2_checkIndex_2214a_8 : decode cJ2_checkIndex_2214a 8 = .ok (.return_, 1) := by decide +kernel
theorem dJxa1e45_init_da8c8_0 : decode cJxa1e45_init_da8c8 0 = .ok (.aload_n 0, 1) := by decide +kernel
theorem dJxa1e45_init_da8c8_1 : decode cJxa1e45_init_da8c8 1 = .ok (.invokespecial 1, 3) := by decide +kernel
theorem dJxa1e45_init_da8c8_4 : decode cJxa1e45_init_da8c8 4 = .ok (.return_, 1) := by decide +kernel
theorem dJxc12de_init_da8c8_0 : decode cJxc12de_init_da8c8 0 = .ok (.aload_n 0, 1) := by decide +kernel
theorem dJxc12de_init_da8c8_1 : decode cJxc12de_init_da8c8 1 = .ok (.invokespecial 1, 3) := by decide +kernel
theorem dJxc12de_init_da8c8_4 : decode cJxc12de_init_da8c8 4 = .ok (.aload_n 0, 1) := by decide +kernel
theorem dJxc12de_init_da8c8_5 : decode cJxc12de_init_da8c8 5 = .ok (.iconst 0, 1) := by decide +kernel
theorem dJxc12de_init_da8c8_6 : decode cJxc12de_init_da8c8 6 = .ok (.putfield 7, 3) := by decide +kernel
theorem dJxc12de_init_da8c8_9 : decode cJxc12de_init_da8c8 9 = .ok (.return_, 1) := by decide +kernel
theorem dJx4a65c_init_da8c8_0 : decode cJx4a65c_init_da8c8 0 = .ok (.aload_n 0, 1) := by decide +kernel
theorem dJx4a65c_init_da8c8_1 : decode cJx4a65c_init_da8c8 1 = .ok (.invokespecial 1, 3) := by decide +kernel
theorem dJx4a65c_init_da8c8_4 : decode cJx4a65c_init_da8c8 4 = .ok (.aload_n 0, 1) := by decide +kernel
theorem dJx4a65c_init_da8c8_5 : decode cJx4a65c_init_da8c8 5 = .ok (.getstatic 39, 3) := by decide +kernel
theorem dJx4a65c_init_da8c8_8 : decode cJx4a65c_init_da8c8 8 = .ok (.putfield 9, 3) := by decide +kernel
theorem dJx4a65c_init_da8c8_11 : decode cJx4a65c_init_da8c8 11 = .ok (.return_, 1) := by decide +kernel
theorem dJx4a65c_grow_92f84_0 : decode cJx4a65c_grow_92f84 0 = .ok (.aload_n 0, 1) := by decide +kernel
theorem dJx4a65c_grow_92f84_1 : decode cJx4a65c_grow_92f84 1 = .ok (.getfield 9, 3) := by decide +kernel
theorem dJx4a65c_grow_92f84_4 : decode cJx4a65c_grow_92f84 4 = .ok (.arraylength, 1) := by decide +kernel
theorem dJx4a65c_grow_92f84_5 : decode cJx4a65c_grow_92f84 5 = .ok (.istore_n 2, 1) := by decide +kernel
theorem dJx4a65c_grow_92f84_6 : decode cJx4a65c_grow_92f84 6 = .ok (.iload_n 2, 1) := by decide +kernel
theorem dJx4a65c_grow_92f84_7 : decode cJx4a65c_grow_92f84 7 = .ok (.ifCond .gt 13, 3) := by decide +kernel
theorem dJx4a65c_grow_92f84_10 : decode cJx4a65c_grow_92f84 10 = .ok (.aload_n 0, 1) := by decide +kernel
theorem dJx4a65c_grow_92f84_11 : decode cJx4a65c_grow_92f84 11 = .ok (.getfield 9, 3) := by decide +kernel
theorem dJx4a65c_grow_92f84_14 : decode cJx4a65c_grow_92f84 14 = .ok (.getstatic 39, 3) := by decide +kernel
theorem dJx4a65c_grow_92f84_17 : decode cJx4a65c_grow_92f84 17 = .ok (.if_acmp .eq 28, 3) := by decide +kernel
theorem dJx4a65c_grow_92f84_20 : decode cJx4a65c_grow_92f84 20 = .ok (.iload_n 2, 1) := by decide +kernel
theorem dJx4a65c_grow_92f84_21 : decode cJx4a65c_grow_92f84 21 = .ok (.iload_n 1, 1) := by decide +kernel
theorem dJx4a65c_grow_92f84_22 : decode cJx4a65c_grow_92f84 22 = .ok (.iload_n 2, 1) := by decide +kernel
theorem dJx4a65c_grow_92f84_23 : decode cJx4a65c_grow_92f84 23 = .ok (.isub, 1) := by decide +kernel
theorem dJx4a65c_grow_92f84_24 : decode cJx4a65c_grow_92f84 24 = .ok (.iload_n 2, 1) := by decide +kernel
theorem dJx4a65c_grow_92f84_25 : decode cJx4a65c_grow_92f84 25 = .ok (.iconst 1, 1) := by decide +kernel
theorem dJx4a65c_grow_92f84_26 : decode cJx4a65c_grow_92f84 26 = .ok (.ishr, 1) := by decide +kernel
theorem dJx4a65c_grow_92f84_27 : decode cJx4a65c_grow_92f84 27 = .ok (.invokestatic 73, 3) := by decide +kernel
theorem dJx4a65c_grow_92f84_30 : decode cJx4a65c_grow_92f84 30 = .ok (.istore_n 3, 1) := by decide +kernel
theorem dJx4a65c_grow_92f84_31 : decode cJx4a65c_grow_92f84 31 = .ok (.aload_n 0, 1) := by decide +kernel
theorem dJx4a65c_grow_92f84_32 : decode cJx4a65c_grow_92f84 32 = .ok (.aload_n 0, 1) := by decide +kernel
theorem dJx4a65c_grow_92f84_33 : decode cJx4a65c_grow_92f84 33 = .ok (.getfield 9, 3) := by decide +kernel
theorem dJx4a65c_grow_92f84_36 : decode cJx4a65c_grow_92f84 36 = .ok (.iload_n 3, 1) := by decide +kernel
theorem dJx4a65c_grow_92f84_37 : decode cJx4a65c_grow_92f84 37 = .ok (.invokestatic 66, 3) := by decide +kernel
theorem dJx4a65c_grow_92f84_40 : decode cJx4a65c_grow_92f84 40 = .ok (.dup_x1, 1) := by decide +kernel
theorem dJx4a65c_grow_92f84_41 : decode cJx4a65c_grow_92f84 41 = .ok (.putfield 9, 3) := by decide +kernel
theorem dJx4a65c_grow_92f84_44 : decode cJx4a65c_grow_92f84 44 = .ok (.areturn, 1) := by decide +kernel
theorem dJx4a65c_grow_92f84_45 : decode cJx4a65c_grow_92f84 45 = .ok (.aload_n 0, 1) := by decide +kernel
theorem dJx4a65c_grow_92f84_46 : decode cJx4a65c_grow_92f84 46 = .ok (.bipush 10, 2) := by decide +kernel
theorem dJx4a65c_grow_92f84_48 : decode cJx4a65c_grow_92f84 48 = .ok (.iload_n 1, 1) := by decide +kernel
theorem dJx4a65c_grow_92f84_49 : decode cJx4a65c_grow_92f84 49 = .ok (.invokestatic 79, 3) := by decide +kernel
theorem dJx4a65c_grow_92f84_52 : decode cJx4a65c_grow_92f84 52 = .ok (.anewarray 7, 3) := by decide +kernel
theorem dJx4a65c_grow_92f84_55 : decode cJx4a65c_grow_92f84 55 = .ok (.dup_x1, 1) := by decide +kernel
theorem dJx4a65c_grow_92f84_56 : decode cJx4a65c_grow_92f84 56 = .ok (.putfield 9, 3) := by decide +kernel
theorem dJx4a65c_grow_92f84_59 : decode cJx4a65c_grow_92f84 59 = .ok (.areturn, 1) := by decide +kernel
theorem dJx4a65c_grow_d5877_0 : decode cJx4a65c_grow_d5877 0 = .ok (.aload_n 0, 1) := by decide +kernel
theorem dJx4a65c_grow_d5877_1 : decode cJx4a65c_grow_d5877 1 = .ok (.aload_n 0, 1) := by decide +kernel
theorem dJx4a65c_grow_d5877_2 : decode cJx4a65c_grow_d5877 2 = .ok (.getfield 48, 3) := by decide +kernel
theorem dJx4a65c_grow_d5877_5 : decode cJx4a65c_grow_d5877 5 = .ok (.iconst 1, 1) := by decide +kernel
theorem dJx4a65c_grow_d5877_6 : decode cJx4a65c_grow_d5877 6 = .ok (.iadd, 1) := by decide +kernel
theorem dJx4a65c_grow_d5877_7 : decode cJx4a65c_grow_d5877 7 = .ok (.invokevirtual 69, 3) := by decide +kernel
theorem dJx4a65c_grow_d5877_10 : decode cJx4a65c_grow_d5877 10 = .ok (.areturn, 1) := by decide +kernel
theorem dJx4a65c_size_8abf5_0 : decode cJx4a65c_size_8abf5 0 = .ok (.aload_n 0, 1) := by decide +kernel
theorem dJx4a65c_size_8abf5_1 : decode cJx4a65c_size_8abf5 1 = .ok (.getfield 48, 3) := by decide +kernel
theorem dJx4a65c_size_8abf5_4 : decode cJx4a65c_size_8abf5 4 = .ok (.ireturn, 1) := by decide +kernel
theorem dJx4a65c_elementData_915e3_0 : decode cJx4a65c_elementData_915e3 0 = .ok (.aload_n 0, 1) := by decide +kernel
theorem dJx4a65c_elementData_915e3_1 : decode cJx4a65c_elementData_915e3 1 = .ok (.getfield 9, 3) := by decide +kernel
theorem dJx4a65c_elementData_915e3_4 : decode cJx4a65c_elementData_915e3 4 = .ok (.iload_n 1, 1) := by decide +kernel
theorem dJx4a65c_elementData_915e3_5 : decode cJx4a65c_elementData_915e3 5 = .ok (.aaload, 1) := by decide +kernel
theorem dJx4a65c_elementData_915e3_6 : decode cJx4a65c_elementData_915e3 6 = .ok (.areturn, 1) := by decide +kernel
theorem dJx4a65c_get_915e3_0 : decode cJx4a65c_get_915e3 0 = .ok (.iload_n 1, 1) := by decide +kernel
theorem dJx4a65c_get_915e3_1 : decode cJx4a65c_get_915e3 1 = .ok (.aload_n 0, 1) := by decide +kernel
theorem dJx4a65c_get_915e3_2 : decode cJx4a65c_get_915e3 2 = .ok (.getfield 48, 3) := by decide +kernel
theorem dJx4a65c_get_915e3_5 : decode cJx4a65c_get_915e3 5 = .ok (.invokestatic 118, 3) := by decide +kernel
theorem dJx4a65c_get_915e3_8 : decode cJx4a65c_get_915e3 8 = .ok (.pop, 1) := by decide +kernel
theorem dJx4a65c_get_915e3_9 : decode cJx4a65c_get_915e3 9 = .ok (.aload_n 0, 1) := by decide +kernel
theorem dJx4a65c_get_915e3_10 : decode cJx4a65c_get_915e3 10 = .ok (.iload_n 1, 1) := by decide +kernel
theorem dJx4a65c_get_915e3_11 : decode cJx4a65c_get_915e3 11 = .ok (.invokevirtual 123, 3) := by decide +kernel
theorem dJx4a65c_get_915e3_14 : decode cJx4a65c_get_915e3 14 = .ok (.areturn, 1) := by decide +kernel
theorem dJx4a65c_add_72be8_0 : decode cJx4a65c_add_72be8 0 = .ok (.iload_n 3, 1) := by decide +kernel
theorem dJx4a65c_add_72be8_1 : decode cJx4a65c_add_72be8 1 = .ok (.aload_n 2, 1) := by decide +kernel
theorem dJx4a65c_add_72be8_2 : decode cJx4a65c_add_72be8 2 = .ok (.arraylength, 1) := by decide +kernel
theorem dJx4a65c_add_72be8_3 : decode cJx4a65c_add_72be8 3 = .ok (.if_icmp .ne 8, 3) := by decide +kernel
theorem dJx4a65c_add_72be8_6 : decode cJx4a65c_add_72be8 6 = .ok (.aload_n 0, 1) := by decide +kernel
theorem dJx4a65c_add_72be8_7 : decode cJx4a65c_add_72be8 7 = .ok (.invokevirtual 129, 3) := by decide +kernel
theorem dJx4a65c_add_72be8_10 : decode cJx4a65c_add_72be8 10 = .ok (.astore_n 2, 1) := by decide +kernel
theorem dJx4a65c_add_72be8_11 : decode cJx4a65c_add_72be8 11 = .ok (.aload_n 2, 1) := by decide +kernel
theorem dJx4a65c_add_72be8_12 : decode cJx4a65c_add_72be8 12 = .ok (.iload_n 3, 1) := by decide +kernel
theorem dJx4a65c_add_72be8_13 : decode cJx4a65c_add_72be8 13 = .ok (.aload_n 1, 1) := by decide +kernel
theorem dJx4a65c_add_72be8_14 : decode cJx4a65c_add_72be8 14 = .ok (.aastore, 1) := by decide +kernel
theorem dJx4a65c_add_72be8_15 : decode cJx4a65c_add_72be8 15 = .ok (.aload_n 0, 1) := by decide +kernel
theorem dJx4a65c_add_72be8_16 : decode cJx4a65c_add_72be8 16 = .ok (.iload_n 3, 1) := by decide +kernel
theorem dJx4a65c_add_72be8_17 : decode cJx4a65c_add_72be8 17 = .ok (.iconst 1, 1) := by decide +kernel
theorem dJx4a65c_add_72be8_18 : decode cJx4a65c_add_72be8 18 = .ok (.iadd, 1) := by decide +kernel
theorem dJx4a65c_add_72be8_19 : decode cJx4a65c_add_72be8 19 = .ok (.putfield 48, 3) := by decide +kernel
theorem dJx4a65c_add_72be8_22 : decode cJx4a65c_add_72be8 22 = .ok (.return_, 1) := by decide +kernel
theorem dJx4a65c_add_9ea2d_0 : decode cJx4a65c_add_9ea2d 0 = .ok (.aload_n 0, 1) := by decide +kernel
theorem dJx4a65c_add_9ea2d_1 : decode cJx4a65c_add_9ea2d 1 = .ok (.dup, 1) := by decide +kernel
theorem dJx4a65c_add_9ea2d_2 : decode cJx4a65c_add_9ea2d 2 = .ok (.getfield 63, 3) := by decide +kernel
theorem dJx4a65c_add_9ea2d_5 : decode cJx4a65c_add_9ea2d 5 = .ok (.iconst 1, 1) := by decide +kernel
theorem dJx4a65c_add_9ea2d_6 : decode cJx4a65c_add_9ea2d 6 = .ok (.iadd, 1) := by decide +kernel
theorem dJx4a65c_add_9ea2d_7 : decode cJx4a65c_add_9ea2d 7 = .ok (.putfield 63, 3) := by decide +kernel
theorem dJx4a65c_add_9ea2d_10 : decode cJx4a65c_add_9ea2d 10 = .ok (.aload_n 0, 1) := by decide +kernel
theorem dJx4a65c_add_9ea2d_11 : decode cJx4a65c_add_9ea2d 11 = .ok (.aload_n 1, 1) := by decide +kernel
theorem dJx4a65c_add_9ea2d_12 : decode cJx4a65c_add_9ea2d 12 = .ok (.aload_n 0, 1) := by decide +kernel
theorem dJx4a65c_add_9ea2d_13 : decode cJx4a65c_add_9ea2d 13 = .ok (.getfield 9, 3) := by decide +kernel
theorem dJx4a65c_add_9ea2d_16 : decode cJx4a65c_add_9ea2d 16 = .ok (.aload_n 0, 1) := by decide +kernel
theorem dJx4a65c_add_9ea2d_17 : decode cJx4a65c_add_9ea2d 17 = .ok (.getfield 48, 3) := by decide +kernel
theorem dJx4a65c_add_9ea2d_20 : decode cJx4a65c_add_9ea2d 20 = .ok (.invokevirtual 131, 3) := by decide +kernel
theorem dJx4a65c_add_9ea2d_23 : decode cJx4a65c_add_9ea2d 23 = .ok (.iconst 1, 1) := by decide +kernel
theorem dJx4a65c_add_9ea2d_24 : decode cJx4a65c_add_9ea2d 24 = .ok (.ireturn, 1) := by decide +kernel
theorem dJ15_checkIndex_7cf53_0 : decode cJ15_checkIndex_7cf53 0 = .ok (.iload_n 0, 1) := by decide +kernel
theorem dJ15_checkIndex_7cf53_1 : decode cJ15_checkIndex_7cf53 1 = .ok (.iload_n 1, 1) := by decide +kernel
theorem dJ15_checkIndex_7cf53_2 : decode cJ15_checkIndex_7cf53 2 = .ok (.aconst_null, 1) := by decide +kernel
theorem dJ15_checkIndex_7cf53_3 : decode cJ15_checkIndex_7cf53 3 = .ok (.invokestatic 105, 3) := by decide +kernel
theorem dJ15_checkIndex_7cf53_6 : decode cJ15_checkIndex_7cf53 6 = .ok (.ireturn, 1) := by decide +kernel
theorem dJ3_checkIndex_8e157_0 : decode cJ3_checkIndex_8e157 0 = .ok (.iload_n 0, 1) := by decide +kernel
theorem dJ3_checkIndex_8e157_1 : decode cJ3_checkIndex_8e157 1 = .ok (.ifCond .lt 8, 3) := by decide +kernel
theorem dJ3_checkIndex_8e157_4 : decode cJ3_checkIndex_8e157 4 = .ok (.iload_n 0, 1) := by decide +kernel
theorem dJ3_checkIndex_8e157_5 : decode cJ3_checkIndex_8e157 5 = .ok (.iload_n 1, 1) := by decide +kernel
theorem dJ3_checkIndex_8e157_6 : decode cJ3_checkIndex_8e157 6 = .ok (.if_icmp .lt 10, 3) := by decide +kernel
theorem dJ3_checkIndex_8e157_9 : decode cJ3_checkIndex_8e157 9 = .ok (.aload_n 2, 1) := by decide +kernel
theorem dJ3_checkIndex_8e157_10 : decode cJ3_checkIndex_8e157 10 = .ok (.iload_n 0, 1) := by decide +kernel
theorem dJ3_checkIndex_8e157_11 : decode cJ3_checkIndex_8e157 11 = .ok (.iload_n 1, 1) := by decide +kernel
theorem dJ3_checkIndex_8e157_12 : decode cJ3_checkIndex_8e157 12 = .ok (.invokestatic 95, 3) := by decide +kernel
theorem dJ3_checkIndex_8e157_15 : decode cJ3_checkIndex_8e157 15 = .ok (.athrow, 1) := by decide +kernel
theorem dJ3_checkIndex_8e157_16 : decode cJ3_checkIndex_8e157 16 = .ok (.iload_n 0, 1) := by decide +kernel
theorem dJ3_checkIndex_8e157_17 : decode cJ3_checkIndex_8e157 17 = .ok (.ireturn, 1) := by decide +kernel
theorem dL_cell_0 : decode cL_cell 0 = .ok (.iload_n 1, 1) := by decide +kernel
theorem dL_cell_1 : decode cL_cell 1 = .ok (.aload_n 0, 1) := by decide +kernel
theorem dL_cell_2 : decode cL_cell 2 = .ok (.arraylength, 1) := by decide +kernel
theorem dL_cell_3 : decode cL_cell 3 = .ok (.if_icmp .ge 9, 3) := by decide +kernel
theorem dL_cell_6 : decode cL_cell 6 = .ok (.aload_n 0, 1) := by decide +kernel
theorem dL_cell_7 : decode cL_cell 7 = .ok (.iload_n 1, 1) := by decide +kernel
theorem dL_cell_8 : decode cL_cell 8 = .ok (.iaload, 1) := by decide +kernel
theorem dL_cell_9 : decode cL_cell 9 = .ok (.goto 10, 3) := by decide +kernel
theorem dL_cell_12 : decode cL_cell 12 = .ok (.ldc 7, 2) := by decide +kernel
theorem dL_cell_14 : decode cL_cell 14 = .ok (.iload_n 1, 1) := by decide +kernel
theorem dL_cell_15 : decode cL_cell 15 = .ok (.imul, 1) := by decide +kernel
theorem dL_cell_16 : decode cL_cell 16 = .ok (.bipush 31, 2) := by decide +kernel
theorem dL_cell_18 : decode cL_cell 18 = .ok (.iadd, 1) := by decide +kernel
theorem dL_cell_19 : decode cL_cell 19 = .ok (.ireturn, 1) := by decide +kernel
theorem dL_pick_0 : decode cL_pick 0 = .ok (.aload_n 0, 1) := by decide +kernel
theorem dL_pick_1 : decode cL_pick 1 = .ok (.iload_n 1, 1) := by decide +kernel
theorem dL_pick_2 : decode cL_pick 2 = .ok (.invokestatic 8, 3) := by decide +kernel
theorem dL_pick_5 : decode cL_pick 5 = .ok (.iconst 1, 1) := by decide +kernel
theorem dL_pick_6 : decode cL_pick 6 = .ok (.iushr, 1) := by decide +kernel
theorem dL_pick_7 : decode cL_pick 7 = .ok (.iload_n 2, 1) := by decide +kernel
theorem dL_pick_8 : decode cL_pick 8 = .ok (.irem, 1) := by decide +kernel
theorem dL_pick_9 : decode cL_pick 9 = .ok (.ireturn, 1) := by decide +kernel
theorem dL_addBeamline_0 : decode cL_addBeamline 0 = .ok (.aload_n 0, 1) := by decide +kernel
theorem dL_addBeamline_1 : decode cL_addBeamline 1 = .ok (.iload_n 1, 1) := by decide +kernel
theorem dL_addBeamline_2 : decode cL_addBeamline 2 = .ok (.iload_n 2, 1) := by decide +kernel
theorem dL_addBeamline_3 : decode cL_addBeamline 3 = .ok (.invokevirtual 14, 3) := by decide +kernel
theorem dL_addBeamline_6 : decode cL_addBeamline 6 = .ok (.ireturn, 1) := by decide +kernel
theorem dL_addBeamline_7 : decode cL_addBeamline 7 = .ok (.astore_n 3, 1) := by decide +kernel
theorem dL_addBeamline_8 : decode cL_addBeamline 8 = .ok (.sipush (-1001), 3) := by decide +kernel
theorem dL_addBeamline_11 : decode cL_addBeamline 11 = .ok (.ireturn, 1) := by decide +kernel
theorem dL_addBeamline_12 : decode cL_addBeamline 12 = .ok (.astore_n 3, 1) := by decide +kernel
theorem dL_addBeamline_13 : decode cL_addBeamline 13 = .ok (.sipush (-1002), 3) := by decide +kernel
theorem dL_addBeamline_16 : decode cL_addBeamline 16 = .ok (.ireturn, 1) := by decide +kernel
theorem dL_setRate_0 : decode cL_setRate 0 = .ok (.aload_n 0, 1) := by decide +kernel
theorem dL_setRate_1 : decode cL_setRate 1 = .ok (.iload_n 1, 1) := by decide +kernel
theorem dL_setRate_2 : decode cL_setRate 2 = .ok (.iload_n 2, 1) := by decide +kernel
theorem dL_setRate_3 : decode cL_setRate 3 = .ok (.invokevirtual 24, 3) := by decide +kernel
theorem dL_setRate_6 : decode cL_setRate 6 = .ok (.ireturn, 1) := by decide +kernel
theorem dL_setRate_7 : decode cL_setRate 7 = .ok (.astore_n 3, 1) := by decide +kernel
theorem dL_setRate_8 : decode cL_setRate 8 = .ok (.sipush (-1001), 3) := by decide +kernel
theorem dL_setRate_11 : decode cL_setRate 11 = .ok (.ireturn, 1) := by decide +kernel
theorem dL_setRate_12 : decode cL_setRate 12 = .ok (.astore_n 3, 1) := by decide +kernel
theorem dL_setRate_13 : decode cL_setRate 13 = .ok (.sipush (-1002), 3) := by decide +kernel
theorem dL_setRate_16 : decode cL_setRate 16 = .ok (.ireturn, 1) := by decide +kernel
theorem dL_propose_0 : decode cL_propose 0 = .ok (.aload_n 0, 1) := by decide +kernel
theorem dL_propose_1 : decode cL_propose 1 = .ok (.iload_n 1, 1) := by decide +kernel
theorem dL_propose_2 : decode cL_propose 2 = .ok (.iload_n 2, 1) := by decide +kernel
theorem dL_propose_3 : decode cL_propose 3 = .ok (.iload_n 3, 1) := by decide +kernel
theorem dL_propose_4 : decode cL_propose 4 = .ok (.iload 4, 2) := by decide +kernel
theorem dL_propose_6 : decode cL_propose 6 = .ok (.iload 5, 2) := by decide +kernel
theorem dL_propose_8 : decode cL_propose 8 = .ok (.invokevirtual 29, 3) := by decide +kernel
theorem dL_propose_11 : decode cL_propose 11 = .ok (.ireturn, 1) := by decide +kernel
theorem dL_propose_12 : decode cL_propose 12 = .ok (.astore 6, 2) := by decide +kernel
theorem dL_propose_14 : decode cL_propose 14 = .ok (.sipush (-1001), 3) := by decide +kernel
theorem dL_propose_17 : decode cL_propose 17 = .ok (.ireturn, 1) := by decide +kernel
theorem dL_propose_18 : decode cL_propose 18 = .ok (.astore 6, 2) := by decide +kernel
theorem dL_propose_20 : decode cL_propose 20 = .ok (.sipush (-1002), 3) := by decide +kernel
theorem dL_propose_23 : decode cL_propose 23 = .ok (.ireturn, 1) := by decide +kernel
theorem dL_propose_24 : decode cL_propose 24 = .ok (.astore 6, 2) := by decide +kernel
theorem dL_propose_26 : decode cL_propose 26 = .ok (.sipush (-1003), 3) := by decide +kernel
theorem dL_propose_29 : decode cL_propose 29 = .ok (.ireturn, 1) := by decide +kernel
theorem dL_meet_0 : decode cL_meet 0 = .ok (.aload_n 0, 1) := by decide +kernel
theorem dL_meet_1 : decode cL_meet 1 = .ok (.iload_n 1, 1) := by decide +kernel
theorem dL_meet_2 : decode cL_meet 2 = .ok (.invokevirtual 33, 3) := by decide +kernel
theorem dL_meet_5 : decode cL_meet 5 = .ok (.ireturn, 1) := by decide +kernel
theorem dL_meet_6 : decode cL_meet 6 = .ok (.astore_n 2, 1) := by decide +kernel
theorem dL_meet_7 : decode cL_meet 7 = .ok (.sipush (-1001), 3) := by decide +kernel
theorem dL_meet_10 : decode cL_meet 10 = .ok (.ireturn, 1) := by decide +kernel
theorem dL_meet_11 : decode cL_meet 11 = .ok (.astore_n 2, 1) := by decide +kernel
theorem dL_meet_12 : decode cL_meet 12 = .ok (.sipush (-1002), 3) := by decide +kernel
theorem dL_meet_15 : decode cL_meet 15 = .ok (.ireturn, 1) := by decide +kernel
theorem dL_reserve_0 : decode cL_reserve 0 = .ok (.aload_n 0, 1) := by decide +kernel
theorem dL_reserve_1 : decode cL_reserve 1 = .ok (.iload_n 1, 1) := by decide +kernel
theorem dL_reserve_2 : decode cL_reserve 2 = .ok (.invokevirtual 37, 3) := by decide +kernel
theorem dL_reserve_5 : decode cL_reserve 5 = .ok (.ireturn, 1) := by decide +kernel
theorem dL_reserve_6 : decode cL_reserve 6 = .ok (.astore_n 2, 1) := by decide +kernel
theorem dL_reserve_7 : decode cL_reserve 7 = .ok (.sipush (-1001), 3) := by decide +kernel
theorem dL_reserve_10 : decode cL_reserve 10 = .ok (.ireturn, 1) := by decide +kernel
theorem dL_reserve_11 : decode cL_reserve 11 = .ok (.astore_n 2, 1) := by decide +kernel
theorem dL_reserve_12 : decode cL_reserve 12 = .ok (.sipush (-1002), 3) := by decide +kernel
theorem dL_reserve_15 : decode cL_reserve 15 = .ok (.ireturn, 1) := by decide +kernel
theorem dL_train_0 : decode cL_train 0 = .ok (.aload_n 0, 1) := by decide +kernel
theorem dL_train_1 : decode cL_train 1 = .ok (.iload_n 1, 1) := by decide +kernel
theorem dL_train_2 : decode cL_train 2 = .ok (.invokevirtual 40, 3) := by decide +kernel
theorem dL_train_5 : decode cL_train 5 = .ok (.ireturn, 1) := by decide +kernel
theorem dL_train_6 : decode cL_train 6 = .ok (.astore_n 2, 1) := by decide +kernel
theorem dL_train_7 : decode cL_train 7 = .ok (.sipush (-1001), 3) := by decide +kernel
theorem dL_train_10 : decode cL_train 10 = .ok (.ireturn, 1) := by decide +kernel
theorem dL_train_11 : decode cL_train 11 = .ok (.astore_n 2, 1) := by decide +kernel
theorem dL_train_12 : decode cL_train 12 = .ok (.sipush (-1002), 3) := by decide +kernel
theorem dL_train_15 : decode cL_train 15 = .ok (.ireturn, 1) := by decide +kernel
theorem dL_setThere_0 : decode cL_setThere 0 = .ok (.aload_n 0, 1) := by decide +kernel
theorem dL_setThere_1 : decode cL_setThere 1 = .ok (.iload_n 1, 1) := by decide +kernel
theorem dL_setThere_2 : decode cL_setThere 2 = .ok (.iload_n 2, 1) := by decide +kernel
theorem dL_setThere_3 : decode cL_setThere 3 = .ok (.invokevirtual 43, 3) := by decide +kernel
theorem dL_setThere_6 : decode cL_setThere 6 = .ok (.ifCond .eq 7, 3) := by decide +kernel
theorem dL_setThere_9 : decode cL_setThere 9 = .ok (.iconst 1, 1) := by decide +kernel
theorem dL_setThere_10 : decode cL_setThere 10 = .ok (.goto 4, 3) := by decide +kernel
theorem dL_setThere_13 : decode cL_setThere 13 = .ok (.iconst 0, 1) := by decide +kernel
theorem dL_setThere_14 : decode cL_setThere 14 = .ok (.ireturn, 1) := by decide +kernel
theorem dL_setThere_15 : decode cL_setThere 15 = .ok (.astore_n 3, 1) := by decide +kernel
theorem dL_setThere_16 : decode cL_setThere 16 = .ok (.sipush (-1001), 3) := by decide +kernel
theorem dL_setThere_19 : decode cL_setThere 19 = .ok (.ireturn, 1) := by decide +kernel
theorem dL_bring_0 : decode cL_bring 0 = .ok (.aload_n 0, 1) := by decide +kernel
theorem dL_bring_1 : decode cL_bring 1 = .ok (.iload_n 1, 1) := by decide +kernel
theorem dL_bring_2 : decode cL_bring 2 = .ok (.iload_n 2, 1) := by decide +kernel
theorem dL_bring_3 : decode cL_bring 3 = .ok (.invokevirtual 47, 3) := by decide +kernel
theorem dL_bring_6 : decode cL_bring 6 = .ok (.ireturn, 1) := by decide +kernel
theorem dL_bring_7 : decode cL_bring 7 = .ok (.astore_n 3, 1) := by decide +kernel
theorem dL_bring_8 : decode cL_bring 8 = .ok (.sipush (-1001), 3) := by decide +kernel
theorem dL_bring_11 : decode cL_bring 11 = .ok (.ireturn, 1) := by decide +kernel
theorem dL_bring_12 : decode cL_bring 12 = .ok (.astore_n 3, 1) := by decide +kernel
theorem dL_bring_13 : decode cL_bring 13 = .ok (.sipush (-1002), 3) := by decide +kernel
theorem dL_bring_16 : decode cL_bring 16 = .ok (.ireturn, 1) := by decide +kernel
theorem dL_put_0 : decode cL_put 0 = .ok (.aload_n 0, 1) := by decide +kernel
theorem dL_put_1 : decode cL_put 1 = .ok (.iload_n 1, 1) := by decide +kernel
theorem dL_put_2 : decode cL_put 2 = .ok (.iload_n 2, 1) := by decide +kernel
theorem dL_put_3 : decode cL_put 3 = .ok (.invokevirtual 50, 3) := by decide +kernel
theorem dL_put_6 : decode cL_put 6 = .ok (.ireturn, 1) := by decide +kernel
theorem dL_put_7 : decode cL_put 7 = .ok (.astore_n 3, 1) := by decide +kernel
theorem dL_put_8 : decode cL_put 8 = .ok (.sipush (-1001), 3) := by decide +kernel
theorem dL_put_11 : decode cL_put 11 = .ok (.ireturn, 1) := by decide +kernel
theorem dL_put_12 : decode cL_put 12 = .ok (.astore_n 3, 1) := by decide +kernel
theorem dL_put_13 : decode cL_put 13 = .ok (.sipush (-1002), 3) := by decide +kernel
theorem dL_put_16 : decode cL_put 16 = .ok (.ireturn, 1) := by decide +kernel
theorem dL_put_17 : decode cL_put 17 = .ok (.astore_n 3, 1) := by decide +kernel
theorem dL_put_18 : decode cL_put 18 = .ok (.sipush (-1003), 3) := by decide +kernel
theorem dL_put_21 : decode cL_put 21 = .ok (.ireturn, 1) := by decide +kernel
theorem dL_put_22 : decode cL_put 22 = .ok (.astore_n 3, 1) := by decide +kernel
theorem dL_put_23 : decode cL_put 23 = .ok (.sipush (-1004), 3) := by decide +kernel
theorem dL_put_26 : decode cL_put 26 = .ok (.ireturn, 1) := by decide +kernel
theorem dL_life_0 : decode cL_life 0 = .ok (.aload_n 0, 1) := by decide +kernel
theorem dL_life_1 : decode cL_life 1 = .ok (.iload_n 1, 1) := by decide +kernel
theorem dL_life_2 : decode cL_life 2 = .ok (.invokevirtual 58, 3) := by decide +kernel
theorem dL_life_5 : decode cL_life 5 = .ok (.ireturn, 1) := by decide +kernel
theorem dL_life_6 : decode cL_life 6 = .ok (.astore_n 2, 1) := by decide +kernel
theorem dL_life_7 : decode cL_life 7 = .ok (.sipush (-1001), 3) := by decide +kernel
theorem dL_life_10 : decode cL_life 10 = .ok (.ireturn, 1) := by decide +kernel
theorem dL_life_11 : decode cL_life 11 = .ok (.astore_n 2, 1) := by decide +kernel
theorem dL_life_12 : decode cL_life 12 = .ok (.sipush (-1002), 3) := by decide +kernel
theorem dL_life_15 : decode cL_life 15 = .ok (.ireturn, 1) := by decide +kernel
theorem dL_on_0 : decode cL_on 0 = .ok (.aload_n 0, 1) := by decide +kernel
theorem dL_on_1 : decode cL_on 1 = .ok (.iload_n 1, 1) := by decide +kernel
theorem dL_on_2 : decode cL_on 2 = .ok (.invokevirtual 61, 3) := by decide +kernel
theorem dL_on_5 : decode cL_on 5 = .ok (.ireturn, 1) := by decide +kernel
theorem dL_on_6 : decode cL_on 6 = .ok (.astore_n 2, 1) := by decide +kernel
theorem dL_on_7 : decode cL_on 7 = .ok (.sipush (-1001), 3) := by decide +kernel
theorem dL_on_10 : decode cL_on 10 = .ok (.ireturn, 1) := by decide +kernel
theorem dL_on_11 : decode cL_on 11 = .ok (.astore_n 2, 1) := by decide +kernel
theorem dL_on_12 : decode cL_on 12 = .ok (.sipush (-1002), 3) := by decide +kernel
theorem dL_on_15 : decode cL_on 15 = .ok (.ireturn, 1) := by decide +kernel
theorem dL_reason_0 : decode cL_reason 0 = .ok (.aload_n 0, 1) := by decide +kernel
theorem dL_reason_1 : decode cL_reason 1 = .ok (.iload_n 1, 1) := by decide +kernel
theorem dL_reason_2 : decode cL_reason 2 = .ok (.invokevirtual 64, 3) := by decide +kernel
theorem dL_reason_5 : decode cL_reason 5 = .ok (.ireturn, 1) := by decide +kernel
theorem dL_reason_6 : decode cL_reason 6 = .ok (.astore_n 2, 1) := by decide +kernel
theorem dL_reason_7 : decode cL_reason 7 = .ok (.sipush (-1001), 3) := by decide +kernel
theorem dL_reason_10 : decode cL_reason 10 = .ok (.ireturn, 1) := by decide +kernel
theorem dL_fail_0 : decode cL_fail 0 = .ok (.aload_n 0, 1) := by decide +kernel
theorem dL_fail_1 : decode cL_fail 1 = .ok (.iload_n 1, 1) := by decide +kernel
theorem dL_fail_2 : decode cL_fail 2 = .ok (.invokevirtual 68, 3) := by decide +kernel
theorem dL_fail_5 : decode cL_fail 5 = .ok (.ifCond .eq 7, 3) := by decide +kernel
theorem dL_fail_8 : decode cL_fail 8 = .ok (.iconst 1, 1) := by decide +kernel
theorem dL_fail_9 : decode cL_fail 9 = .ok (.goto 4, 3) := by decide +kernel
theorem dL_fail_12 : decode cL_fail 12 = .ok (.iconst 0, 1) := by decide +kernel
theorem dL_fail_13 : decode cL_fail 13 = .ok (.ireturn, 1) := by decide +kernel
theorem dL_fail_14 : decode cL_fail 14 = .ok (.astore_n 2, 1) := by decide +kernel
theorem dL_fail_15 : decode cL_fail 15 = .ok (.sipush (-1001), 3) := by decide +kernel
theorem dL_fail_18 : decode cL_fail 18 = .ok (.ireturn, 1) := by decide +kernel
theorem dL_fail_19 : decode cL_fail 19 = .ok (.astore_n 2, 1) := by decide +kernel
theorem dL_fail_20 : decode cL_fail 20 = .ok (.sipush (-1002), 3) := by decide +kernel
theorem dL_fail_23 : decode cL_fail 23 = .ok (.ireturn, 1) := by decide +kernel
theorem dL_pass_0 : decode cL_pass 0 = .ok (.aload_n 0, 1) := by decide +kernel
theorem dL_pass_1 : decode cL_pass 1 = .ok (.iload_n 1, 1) := by decide +kernel
theorem dL_pass_2 : decode cL_pass 2 = .ok (.invokevirtual 72, 3) := by decide +kernel
theorem dL_pass_5 : decode cL_pass 5 = .ok (.ireturn, 1) := by decide +kernel
theorem dL_pass_6 : decode cL_pass 6 = .ok (.astore_n 2, 1) := by decide +kernel
theorem dL_pass_7 : decode cL_pass 7 = .ok (.sipush (-1001), 3) := by decide +kernel
theorem dL_pass_10 : decode cL_pass 10 = .ok (.ireturn, 1) := by decide +kernel
theorem dL_pass_11 : decode cL_pass 11 = .ok (.astore_n 2, 1) := by decide +kernel
theorem dL_pass_12 : decode cL_pass 12 = .ok (.sipush (-1002), 3) := by decide +kernel
theorem dL_pass_15 : decode cL_pass 15 = .ok (.ireturn, 1) := by decide +kernel
theorem dL_left_0 : decode cL_left 0 = .ok (.aload_n 0, 1) := by decide +kernel
theorem dL_left_1 : decode cL_left 1 = .ok (.iload_n 1, 1) := by decide +kernel
theorem dL_left_2 : decode cL_left 2 = .ok (.invokevirtual 78, 3) := by decide +kernel
theorem dL_left_5 : decode cL_left 5 = .ok (.ireturn, 1) := by decide +kernel
theorem dL_left_6 : decode cL_left 6 = .ok (.astore_n 2, 1) := by decide +kernel
theorem dL_left_7 : decode cL_left 7 = .ok (.sipush (-1001), 3) := by decide +kernel
theorem dL_left_10 : decode cL_left 10 = .ok (.ireturn, 1) := by decide +kernel
theorem dL_leftAnew_0 : decode cL_leftAnew 0 = .ok (.aload_n 0, 1) := by decide +kernel
theorem dL_leftAnew_1 : decode cL_leftAnew 1 = .ok (.iload_n 1, 1) := by decide +kernel
theorem dL_leftAnew_2 : decode cL_leftAnew 2 = .ok (.invokevirtual 81, 3) := by decide +kernel
theorem dL_leftAnew_5 : decode cL_leftAnew 5 = .ok (.ireturn, 1) := by decide +kernel
theorem dL_leftAnew_6 : decode cL_leftAnew 6 = .ok (.astore_n 2, 1) := by decide +kernel
theorem dL_leftAnew_7 : decode cL_leftAnew 7 = .ok (.sipush (-1001), 3) := by decide +kernel
theorem dL_leftAnew_10 : decode cL_leftAnew 10 = .ok (.ireturn, 1) := by decide +kernel
theorem dL_nextAt_0 : decode cL_nextAt 0 = .ok (.aload_n 0, 1) := by decide +kernel
theorem dL_nextAt_1 : decode cL_nextAt 1 = .ok (.iload_n 1, 1) := by decide +kernel
theorem dL_nextAt_2 : decode cL_nextAt 2 = .ok (.invokevirtual 84, 3) := by decide +kernel
theorem dL_nextAt_5 : decode cL_nextAt 5 = .ok (.ireturn, 1) := by decide +kernel
theorem dL_nextAt_6 : decode cL_nextAt 6 = .ok (.astore_n 2, 1) := by decide +kernel
theorem dL_nextAt_7 : decode cL_nextAt 7 = .ok (.sipush (-1001), 3) := by decide +kernel
theorem dL_nextAt_10 : decode cL_nextAt 10 = .ok (.ireturn, 1) := by decide +kernel
theorem dL_nextAt_11 : decode cL_nextAt 11 = .ok (.astore_n 2, 1) := by decide +kernel
theorem dL_nextAt_12 : decode cL_nextAt 12 = .ok (.sipush (-1002), 3) := by decide +kernel
theorem dL_nextAt_15 : decode cL_nextAt 15 = .ok (.ireturn, 1) := by decide +kernel
theorem dL_count_0 : decode cL_count 0 = .ok (.aload_n 0, 1) := by decide +kernel
theorem dL_count_1 : decode cL_count 1 = .ok (.iload_n 1, 1) := by decide +kernel
theorem dL_count_2 : decode cL_count 2 = .ok (.iload_n 2, 1) := by decide +kernel
theorem dL_count_3 : decode cL_count 3 = .ok (.invokevirtual 87, 3) := by decide +kernel
theorem dL_count_6 : decode cL_count 6 = .ok (.ireturn, 1) := by decide +kernel
theorem dL_count_7 : decode cL_count 7 = .ok (.astore_n 3, 1) := by decide +kernel
theorem dL_count_8 : decode cL_count 8 = .ok (.sipush (-1001), 3) := by decide +kernel
theorem dL_count_11 : decode cL_count 11 = .ok (.ireturn, 1) := by decide +kernel
theorem dL_count_12 : decode cL_count 12 = .ok (.astore_n 3, 1) := by decide +kernel
theorem dL_count_13 : decode cL_count 13 = .ok (.sipush (-1002), 3) := by decide +kernel
theorem dL_count_16 : decode cL_count 16 = .ok (.ireturn, 1) := by decide +kernel
theorem dL_sums_0 : decode cL_sums 0 = .ok (.iconst 0, 1) := by decide +kernel
theorem dL_sums_1 : decode cL_sums 1 = .ok (.istore 5, 2) := by decide +kernel
theorem dL_sums_3 : decode cL_sums 3 = .ok (.iload 5, 2) := by decide +kernel
theorem dL_sums_5 : decode cL_sums 5 = .ok (.iconst 2, 1) := by decide +kernel
theorem dL_sums_6 : decode cL_sums 6 = .ok (.if_icmp .ge 215, 3) := by decide +kernel
theorem dL_sums_9 : decode cL_sums 9 = .ok (.aload_n 0, 1) := by decide +kernel
theorem dL_sums_10 : decode cL_sums 10 = .ok (.iload 5, 2) := by decide +kernel
theorem dL_sums_12 : decode cL_sums 12 = .ok (.invokestatic 95, 3) := by decide +kernel
theorem dL_sums_15 : decode cL_sums 15 = .ok (.sipush (-1002), 3) := by decide +kernel
theorem dL_sums_18 : decode cL_sums 18 = .ok (.if_icmp .ne 6, 3) := by decide +kernel
theorem dL_sums_21 : decode cL_sums 21 = .ok (.goto 194, 3) := by decide +kernel
theorem dL_sums_24 : decode cL_sums 24 = .ok (.aload_n 0, 1) := by decide +kernel
theorem dL_sums_25 : decode cL_sums 25 = .ok (.iload 5, 2) := by decide +kernel
theorem dL_sums_27 : decode cL_sums 27 = .ok (.invokestatic 95, 3) := by decide +kernel
theorem dL_sums_30 : decode cL_sums 30 = .ok (.istore 6, 2) := by decide +kernel
theorem dL_sums_32 : decode cL_sums 32 = .ok (.iconst 0, 1) := by decide +kernel
theorem dL_sums_33 : decode cL_sums 33 = .ok (.istore 7, 2) := by decide +kernel
theorem dL_sums_35 : decode cL_sums 35 = .ok (.iconst 0, 1) := by decide +kernel
theorem dL_sums_36 : decode cL_sums 36 = .ok (.istore 8, 2) := by decide +kernel
theorem dL_sums_38 : decode cL_sums 38 = .ok (.iconst 0, 1) := by decide +kernel
theorem dL_sums_39 : decode cL_sums 39 = .ok (.istore 9, 2) := by decide +kernel
theorem dL_sums_41 : decode cL_sums 41 = .ok (.iload 9, 2) := by decide +kernel
theorem dL_sums_43 : decode cL_sums 43 = .ok (.iload_n 3, 1) := by decide +kernel
theorem dL_sums_44 : decode cL_sums 44 = .ok (.if_icmp .ge 153, 3) := by decide +kernel
theorem dL_sums_47 : decode cL_sums 47 = .ok (.aload_n 1, 1) := by decide +kernel
theorem dL_sums_48 : decode cL_sums 48 = .ok (.iload 9, 2) := by decide +kernel
theorem dL_sums_50 : decode cL_sums 50 = .ok (.iaload, 1) := by decide +kernel
theorem dL_sums_51 : decode cL_sums 51 = .ok (.iload 5, 2) := by decide +kernel
theorem dL_sums_53 : decode cL_sums 53 = .ok (.if_icmp .eq 6, 3) := by decide +kernel
theorem dL_sums_56 : decode cL_sums 56 = .ok (.goto 135, 3) := by decide +kernel
theorem dL_sums_59 : decode cL_sums 59 = .ok (.aload_n 0, 1) := by decide +kernel
theorem dL_sums_60 : decode cL_sums 60 = .ok (.iload 9, 2) := by decide +kernel
theorem dL_sums_62 : decode cL_sums 62 = .ok (.invokestatic 98, 3) := by decide +kernel
theorem dL_sums_65 : decode cL_sums 65 = .ok (.aload_n 0, 1) := by decide +kernel
theorem dL_sums_66 : decode cL_sums 66 = .ok (.iload 9, 2) := by decide +kernel
theorem dL_sums_68 : decode cL_sums 68 = .ok (.bipush 100, 2) := by decide +kernel
theorem dL_sums_70 : decode cL_sums 70 = .ok (.invokestatic 100, 3) := by decide +kernel
theorem dL_sums_73 : decode cL_sums 73 = .ok (.iadd, 1) := by decide +kernel
theorem dL_sums_74 : decode cL_sums 74 = .ok (.aload_n 0, 1) := by decide +kernel
theorem dL_sums_75 : decode cL_sums 75 = .ok (.iload 9, 2) := by decide +kernel
theorem dL_sums_77 : decode cL_sums 77 = .ok (.bipush 109, 2) := by decide +kernel
theorem dL_sums_79 : decode cL_sums 79 = .ok (.invokestatic 100, 3) := by decide +kernel
theorem dL_sums_82 : decode cL_sums 82 = .ok (.iadd, 1) := by decide +kernel
theorem dL_sums_83 : decode cL_sums 83 = .ok (.aload_n 0, 1) := by decide +kernel
theorem dL_sums_84 : decode cL_sums 84 = .ok (.iload 9, 2) := by decide +kernel
theorem dL_sums_86 : decode cL_sums 86 = .ok (.bipush 111, 2) := by decide +kernel
theorem dL_sums_88 : decode cL_sums 88 = .ok (.invokestatic 100, 3) := by decide +kernel
theorem dL_sums_91 : decode cL_sums 91 = .ok (.iadd, 1) := by decide +kernel
theorem dL_sums_92 : decode cL_sums 92 = .ok (.istore 10, 2) := by decide +kernel
theorem dL_sums_94 : decode cL_sums 94 = .ok (.aload_n 0, 1) := by decide +kernel
theorem dL_sums_95 : decode cL_sums 95 = .ok (.iload 9, 2) := by decide +kernel
theorem dL_sums_97 : decode cL_sums 97 = .ok (.invokestatic 98, 3) := by decide +kernel
theorem dL_sums_100 : decode cL_sums 100 = .ok (.aload_n 0, 1) := by decide +kernel
theorem dL_sums_101 : decode cL_sums 101 = .ok (.iload 9, 2) := by decide +kernel
theorem dL_sums_103 : decode cL_sums 103 = .ok (.invokestatic 103, 3) := by decide +kernel
theorem dL_sums_106 : decode cL_sums 106 = .ok (.if_icmp .ne 17, 3) := by decide +kernel
theorem dL_sums_109 : decode cL_sums 109 = .ok (.iload 10, 2) := by decide +kernel
theorem dL_sums_111 : decode cL_sums 111 = .ok (.ifCond .eq 14, 3) := by decide +kernel
theorem dL_sums_114 : decode cL_sums 114 = .ok (.iload 10, 2) := by decide +kernel
theorem dL_sums_116 : decode cL_sums 116 = .ok (.aload_n 2, 1) := by decide +kernel
theorem dL_sums_117 : decode cL_sums 117 = .ok (.iload 9, 2) := by decide +kernel
theorem dL_sums_119 : decode cL_sums 119 = .ok (.iaload, 1) := by decide +kernel
theorem dL_sums_120 : decode cL_sums 120 = .ok (.if_icmp .eq 5, 3) := by decide +kernel
theorem dL_sums_123 : decode cL_sums 123 = .ok (.iconst 0, 1) := by decide +kernel
theorem dL_sums_124 : decode cL_sums 124 = .ok (.ireturn, 1) := by decide +kernel
theorem dL_sums_125 : decode cL_sums 125 = .ok (.aload_n 0, 1) := by decide +kernel
theorem dL_sums_126 : decode cL_sums 126 = .ok (.iload 9, 2) := by decide +kernel
theorem dL_sums_128 : decode cL_sums 128 = .ok (.invokestatic 98, 3) := by decide +kernel
theorem dL_sums_131 : decode cL_sums 131 = .ok (.ifCond .le 7, 3) := by decide +kernel
theorem dL_sums_134 : decode cL_sums 134 = .ok (.iconst 1, 1) := by decide +kernel
theorem dL_sums_135 : decode cL_sums 135 = .ok (.goto 4, 3) := by decide +kernel
theorem dL_sums_138 : decode cL_sums 138 = .ok (.iconst 0, 1) := by decide +kernel
theorem dL_sums_139 : decode cL_sums 139 = .ok (.aload_n 0, 1) := by decide +kernel
theorem dL_sums_140 : decode cL_sums 140 = .ok (.iload 9, 2) := by decide +kernel
theorem dL_sums_142 : decode cL_sums 142 = .ok (.invokestatic 105, 3) := by decide +kernel
theorem dL_sums_145 : decode cL_sums 145 = .ok (.ifCond .lt 7, 3) := by decide +kernel
theorem dL_sums_148 : decode cL_sums 148 = .ok (.iconst 1, 1) := by decide +kernel
theorem dL_sums_149 : decode cL_sums 149 = .ok (.goto 4, 3) := by decide +kernel
theorem dL_sums_152 : decode cL_sums 152 = .ok (.iconst 0, 1) := by decide +kernel
theorem dL_sums_153 : decode cL_sums 153 = .ok (.if_icmp .eq 5, 3) := by decide +kernel
theorem dL_sums_156 : decode cL_sums 156 = .ok (.iconst 0, 1) := by decide +kernel
theorem dL_sums_157 : decode cL_sums 157 = .ok (.ireturn, 1) := by decide +kernel
theorem dL_sums_158 : decode cL_sums 158 = .ok (.iload 6, 2) := by decide +kernel
theorem dL_sums_160 : decode cL_sums 160 = .ok (.iload 10, 2) := by decide +kernel
theorem dL_sums_162 : decode cL_sums 162 = .ok (.iadd, 1) := by decide +kernel
theorem dL_sums_163 : decode cL_sums 163 = .ok (.istore 6, 2) := by decide +kernel
theorem dL_sums_165 : decode cL_sums 165 = .ok (.iload 7, 2) := by decide +kernel
theorem dL_sums_167 : decode cL_sums 167 = .ok (.aload_n 0, 1) := by decide +kernel
theorem dL_sums_168 : decode cL_sums 168 = .ok (.iload 9, 2) := by decide +kernel
theorem dL_sums_170 : decode cL_sums 170 = .ok (.bipush 108, 2) := by decide +kernel
theorem dL_sums_172 : decode cL_sums 172 = .ok (.invokestatic 100, 3) := by decide +kernel
theorem dL_sums_175 : decode cL_sums 175 = .ok (.iadd, 1) := by decide +kernel
theorem dL_sums_176 : decode cL_sums 176 = .ok (.istore 7, 2) := by decide +kernel
theorem dL_sums_178 : decode cL_sums 178 = .ok (.iload 8, 2) := by decide +kernel
theorem dL_sums_180 : decode cL_sums 180 = .ok (.aload_n 0, 1) := by decide +kernel
theorem dL_sums_181 : decode cL_sums 181 = .ok (.iload 9, 2) := by decide +kernel
theorem dL_sums_183 : decode cL_sums 183 = .ok (.bipush 111, 2) := by decide +kernel
theorem dL_sums_185 : decode cL_sums 185 = .ok (.invokestatic 100, 3) := by decide +kernel
theorem dL_sums_188 : decode cL_sums 188 = .ok (.iadd, 1) := by decide +kernel
theorem dL_sums_189 : decode cL_sums 189 = .ok (.istore 8, 2) := by decide +kernel
theorem dL_sums_191 : decode cL_sums 191 = .ok (.iinc 9 1, 3) := by decide +kernel
theorem dL_sums_194 : decode cL_sums 194 = .ok (.goto (-153), 3) := by decide +kernel
theorem dL_sums_197 : decode cL_sums 197 = .ok (.iload 6, 2) := by decide +kernel
theorem dL_sums_199 : decode cL_sums 199 = .ok (.iload 7, 2) := by decide +kernel
theorem dL_sums_201 : decode cL_sums 201 = .ok (.iadd, 1) := by decide +kernel
theorem dL_sums_202 : decode cL_sums 202 = .ok (.iload 8, 2) := by decide +kernel
theorem dL_sums_204 : decode cL_sums 204 = .ok (.isub, 1) := by decide +kernel
theorem dL_sums_205 : decode cL_sums 205 = .ok (.aload 4, 2) := by decide +kernel
theorem dL_sums_207 : decode cL_sums 207 = .ok (.iload 5, 2) := by decide +kernel
theorem dL_sums_209 : decode cL_sums 209 = .ok (.iaload, 1) := by decide +kernel
theorem dL_sums_210 : decode cL_sums 210 = .ok (.if_icmp .eq 5, 3) := by decide +kernel
theorem dL_sums_213 : decode cL_sums 213 = .ok (.iconst 0, 1) := by decide +kernel
theorem dL_sums_214 : decode cL_sums 214 = .ok (.ireturn, 1) := by decide +kernel
theorem dL_sums_215 : decode cL_sums 215 = .ok (.iinc 5 1, 3) := by decide +kernel
theorem dL_sums_218 : decode cL_sums 218 = .ok (.goto (-215), 3) := by decide +kernel
theorem dL_sums_221 : decode cL_sums 221 = .ok (.iconst 1, 1) := by decide +kernel
theorem dL_sums_222 : decode cL_sums 222 = .ok (.ireturn, 1) := by decide +kernel
theorem dL_lines_0 : decode cL_lines 0 = .ok (.iconst 0, 1) := by decide +kernel
theorem dL_lines_1 : decode cL_lines 1 = .ok (.istore 6, 2) := by decide +kernel
theorem dL_lines_3 : decode cL_lines 3 = .ok (.iload 6, 2) := by decide +kernel
theorem dL_lines_5 : decode cL_lines 5 = .ok (.iconst 2, 1) := by decide +kernel
theorem dL_lines_6 : decode cL_lines 6 = .ok (.if_icmp .ge 236, 3) := by decide +kernel
theorem dL_lines_9 : decode cL_lines 9 = .ok (.aload_n 0, 1) := by decide +kernel
theorem dL_lines_10 : decode cL_lines 10 = .ok (.iload 6, 2) := by decide +kernel
theorem dL_lines_12 : decode cL_lines 12 = .ok (.invokestatic 107, 3) := by decide +kernel
theorem dL_lines_15 : decode cL_lines 15 = .ok (.istore 7, 2) := by decide +kernel
theorem dL_lines_17 : decode cL_lines 17 = .ok (.aload_n 0, 1) := by decide +kernel
theorem dL_lines_18 : decode cL_lines 18 = .ok (.iload 6, 2) := by decide +kernel
theorem dL_lines_20 : decode cL_lines 20 = .ok (.invokestatic 109, 3) := by decide +kernel
theorem dL_lines_23 : decode cL_lines 23 = .ok (.istore 8, 2) := by decide +kernel
theorem dL_lines_25 : decode cL_lines 25 = .ok (.iload 7, 2) := by decide +kernel
theorem dL_lines_27 : decode cL_lines 27 = .ok (.ifCond .ge 7, 3) := by decide +kernel
theorem dL_lines_30 : decode cL_lines 30 = .ok (.iconst 1, 1) := by decide +kernel
theorem dL_lines_31 : decode cL_lines 31 = .ok (.goto 4, 3) := by decide +kernel
theorem dL_lines_34 : decode cL_lines 34 = .ok (.iconst 0, 1) := by decide +kernel
theorem dL_lines_35 : decode cL_lines 35 = .ok (.iload 8, 2) := by decide +kernel
theorem dL_lines_37 : decode cL_lines 37 = .ok (.bipush 113, 2) := by decide +kernel
theorem dL_lines_39 : decode cL_lines 39 = .ok (.if_icmp .ne 7, 3) := by decide +kernel
theorem dL_lines_42 : decode cL_lines 42 = .ok (.iconst 1, 1) := by decide +kernel
theorem dL_lines_43 : decode cL_lines 43 = .ok (.goto 4, 3) := by decide +kernel
theorem dL_lines_46 : decode cL_lines 46 = .ok (.iconst 0, 1) := by decide +kernel
theorem dL_lines_47 : decode cL_lines 47 = .ok (.if_icmp .eq 5, 3) := by decide +kernel
theorem dL_lines_50 : decode cL_lines 50 = .ok (.iconst 0, 1) := by decide +kernel
theorem dL_lines_51 : decode cL_lines 51 = .ok (.ireturn, 1) := by decide +kernel
theorem dL_lines_52 : decode cL_lines 52 = .ok (.iload 7, 2) := by decide +kernel
theorem dL_lines_54 : decode cL_lines 54 = .ok (.ifCond .ge 6, 3) := by decide +kernel
theorem dL_lines_57 : decode cL_lines 57 = .ok (.goto 179, 3) := by decide +kernel
theorem dL_lines_60 : decode cL_lines 60 = .ok (.aload_n 1, 1) := by decide +kernel
theorem dL_lines_61 : decode cL_lines 61 = .ok (.iload 7, 2) := by decide +kernel
theorem dL_lines_63 : decode cL_lines 63 = .ok (.iaload, 1) := by decide +kernel
theorem dL_lines_64 : decode cL_lines 64 = .ok (.iload 6, 2) := by decide +kernel
theorem dL_lines_66 : decode cL_lines 66 = .ok (.if_icmp .ne 16, 3) := by decide +kernel
theorem dL_lines_69 : decode cL_lines 69 = .ok (.aload_n 0, 1) := by decide +kernel
theorem dL_lines_70 : decode cL_lines 70 = .ok (.iload 7, 2) := by decide +kernel
theorem dL_lines_72 : decode cL_lines 72 = .ok (.invokestatic 105, 3) := by decide +kernel
theorem dL_lines_75 : decode cL_lines 75 = .ok (.aload_n 0, 1) := by decide +kernel
theorem dL_lines_76 : decode cL_lines 76 = .ok (.invokevirtual 111, 3) := by decide +kernel
theorem dL_lines_79 : decode cL_lines 79 = .ok (.if_icmp .eq 5, 3) := by decide +kernel
theorem dL_lines_82 : decode cL_lines 82 = .ok (.iconst 0, 1) := by decide +kernel
theorem dL_lines_83 : decode cL_lines 83 = .ok (.ireturn, 1) := by decide +kernel
theorem dL_lines_84 : decode cL_lines 84 = .ok (.iconst 0, 1) := by decide +kernel
theorem dL_lines_85 : decode cL_lines 85 = .ok (.istore 9, 2) := by decide +kernel
theorem dL_lines_87 : decode cL_lines 87 = .ok (.iload 9, 2) := by decide +kernel
theorem dL_lines_89 : decode cL_lines 89 = .ok (.iload_n 2, 1) := by decide +kernel
theorem dL_lines_90 : decode cL_lines 90 = .ok (.if_icmp .ge 56, 3) := by decide +kernel
theorem dL_lines_93 : decode cL_lines 93 = .ok (.iload 9, 2) := by decide +kernel
theorem dL_lines_95 : decode cL_lines 95 = .ok (.iload 7, 2) := by decide +kernel
theorem dL_lines_97 : decode cL_lines 97 = .ok (.if_icmp .eq 43, 3) := by decide +kernel
theorem dL_lines_100 : decode cL_lines 100 = .ok (.aload_n 1, 1) := by decide +kernel
theorem dL_lines_101 : decode cL_lines 101 = .ok (.iload 9, 2) := by decide +kernel
theorem dL_lines_103 : decode cL_lines 103 = .ok (.iaload, 1) := by decide +kernel
theorem dL_lines_104 : decode cL_lines 104 = .ok (.iload 6, 2) := by decide +kernel
theorem dL_lines_106 : decode cL_lines 106 = .ok (.if_icmp .ne 34, 3) := by decide +kernel
theorem dL_lines_109 : decode cL_lines 109 = .ok (.aload_n 0, 1) := by decide +kernel
theorem dL_lines_110 : decode cL_lines 110 = .ok (.iload 9, 2) := by decide +kernel
theorem dL_lines_112 : decode cL_lines 112 = .ok (.invokestatic 98, 3) := by decide +kernel
theorem dL_lines_115 : decode cL_lines 115 = .ok (.ifCond .le 25, 3) := by decide +kernel
theorem dL_lines_118 : decode cL_lines 118 = .ok (.aload_n 0, 1) := by decide +kernel
theorem dL_lines_119 : decode cL_lines 119 = .ok (.iload 9, 2) := by decide +kernel
theorem dL_lines_121 : decode cL_lines 121 = .ok (.invokestatic 105, 3) := by decide +kernel
theorem dL_lines_124 : decode cL_lines 124 = .ok (.aload_n 0, 1) := by decide +kernel
theorem dL_lines_125 : decode cL_lines 125 = .ok (.invokevirtual 111, 3) := by decide +kernel
theorem dL_lines_128 : decode cL_lines 128 = .ok (.aload_n 0, 1) := by decide +kernel
theorem dL_lines_129 : decode cL_lines 129 = .ok (.iload 7, 2) := by decide +kernel
theorem dL_lines_131 : decode cL_lines 131 = .ok (.invokestatic 98, 3) := by decide +kernel
theorem dL_lines_134 : decode cL_lines 134 = .ok (.iadd, 1) := by decide +kernel
theorem dL_lines_135 : decode cL_lines 135 = .ok (.if_icmp .ge 5, 3) := by decide +kernel
theorem dL_lines_138 : decode cL_lines 138 = .ok (.iconst 0, 1) := by decide +kernel
theorem dL_lines_139 : decode cL_lines 139 = .ok (.ireturn, 1) := by decide +kernel
theorem dL_lines_140 : decode cL_lines 140 = .ok (.iinc 9 1, 3) := by decide +kernel
theorem dL_lines_143 : decode cL_lines 143 = .ok (.goto (-56), 3) := by decide +kernel
theorem dL_lines_146 : decode cL_lines 146 = .ok (.iload 8, 2) := by decide +kernel
theorem dL_lines_148 : decode cL_lines 148 = .ok (.bipush 116, 2) := by decide +kernel
theorem dL_lines_150 : decode cL_lines 150 = .ok (.if_icmp .ne 13, 3) := by decide +kernel
theorem dL_lines_153 : decode cL_lines 153 = .ok (.aload 4, 2) := by decide +kernel
theorem dL_lines_155 : decode cL_lines 155 = .ok (.aload_n 3, 1) := by decide +kernel
theorem dL_lines_156 : decode cL_lines 156 = .ok (.iload 7, 2) := by decide +kernel
theorem dL_lines_158 : decode cL_lines 158 = .ok (.iaload, 1) := by decide +kernel
theorem dL_lines_159 : decode cL_lines 159 = .ok (.baload, 1) := by decide +kernel
theorem dL_lines_160 : decode cL_lines 160 = .ok (.ifCond .ne 74, 3) := by decide +kernel
theorem dL_lines_163 : decode cL_lines 163 = .ok (.iload 8, 2) := by decide +kernel
theorem dL_lines_165 : decode cL_lines 165 = .ok (.bipush 112, 2) := by decide +kernel
theorem dL_lines_167 : decode cL_lines 167 = .ok (.if_icmp .ne 23, 3) := by decide +kernel
theorem dL_lines_170 : decode cL_lines 170 = .ok (.aload 4, 2) := by decide +kernel
theorem dL_lines_172 : decode cL_lines 172 = .ok (.aload_n 3, 1) := by decide +kernel
theorem dL_lines_173 : decode cL_lines 173 = .ok (.iload 7, 2) := by decide +kernel
theorem dL_lines_175 : decode cL_lines 175 = .ok (.iaload, 1) := by decide +kernel
theorem dL_lines_176 : decode cL_lines 176 = .ok (.baload, 1) := by decide +kernel
theorem dL_lines_177 : decode cL_lines 177 = .ok (.ifCond .eq 57, 3) := by decide +kernel
theorem dL_lines_180 : decode cL_lines 180 = .ok (.aload 5, 2) := by decide +kernel
theorem dL_lines_182 : decode cL_lines 182 = .ok (.aload_n 3, 1) := by decide +kernel
theorem dL_lines_183 : decode cL_lines 183 = .ok (.iload 7, 2) := by decide +kernel
theorem dL_lines_185 : decode cL_lines 185 = .ok (.iaload, 1) := by decide +kernel
theorem dL_lines_186 : decode cL_lines 186 = .ok (.baload, 1) := by decide +kernel
theorem dL_lines_187 : decode cL_lines 187 = .ok (.ifCond .ne 47, 3) := by decide +kernel
theorem dL_lines_190 : decode cL_lines 190 = .ok (.iload 8, 2) := by decide +kernel
theorem dL_lines_192 : decode cL_lines 192 = .ok (.bipush 45, 2) := by decide +kernel
theorem dL_lines_194 : decode cL_lines 194 = .ok (.if_icmp .eq 10, 3) := by decide +kernel
theorem dL_lines_197 : decode cL_lines 197 = .ok (.iload 8, 2) := by decide +kernel
theorem dL_lines_199 : decode cL_lines 199 = .ok (.bipush 100, 2) := by decide +kernel
theorem dL_lines_201 : decode cL_lines 201 = .ok (.if_icmp .ne 35, 3) := by decide +kernel
theorem dL_lines_204 : decode cL_lines 204 = .ok (.aload 4, 2) := by decide +kernel
theorem dL_lines_206 : decode cL_lines 206 = .ok (.aload_n 3, 1) := by decide +kernel
theorem dL_lines_207 : decode cL_lines 207 = .ok (.iload 7, 2) := by decide +kernel
theorem dL_lines_209 : decode cL_lines 209 = .ok (.iaload, 1) := by decide +kernel
theorem dL_lines_210 : decode cL_lines 210 = .ok (.baload, 1) := by decide +kernel
theorem dL_lines_211 : decode cL_lines 211 = .ok (.ifCond .eq 23, 3) := by decide +kernel
theorem dL_lines_214 : decode cL_lines 214 = .ok (.aload 5, 2) := by decide +kernel
theorem dL_lines_216 : decode cL_lines 216 = .ok (.aload_n 3, 1) := by decide +kernel
theorem dL_lines_217 : decode cL_lines 217 = .ok (.iload 7, 2) := by decide +kernel
theorem dL_lines_219 : decode cL_lines 219 = .ok (.iaload, 1) := by decide +kernel
theorem dL_lines_220 : decode cL_lines 220 = .ok (.baload, 1) := by decide +kernel
theorem dL_lines_221 : decode cL_lines 221 = .ok (.ifCond .eq 13, 3) := by decide +kernel
theorem dL_lines_224 : decode cL_lines 224 = .ok (.aload_n 0, 1) := by decide +kernel
theorem dL_lines_225 : decode cL_lines 225 = .ok (.iload 7, 2) := by decide +kernel
theorem dL_lines_227 : decode cL_lines 227 = .ok (.invokestatic 114, 3) := by decide +kernel
theorem dL_lines_230 : decode cL_lines 230 = .ok (.iconst 1, 1) := by decide +kernel
theorem dL_lines_231 : decode cL_lines 231 = .ok (.if_icmp .ge 5, 3) := by decide +kernel
theorem dL_lines_234 : decode cL_lines 234 = .ok (.iconst 0, 1) := by decide +kernel
theorem dL_lines_235 : decode cL_lines 235 = .ok (.ireturn, 1) := by decide +kernel
theorem dL_lines_236 : decode cL_lines 236 = .ok (.iinc 6 1, 3) := by decide +kernel
theorem dL_lines_239 : decode cL_lines 239 = .ok (.goto (-236), 3) := by decide +kernel
theorem dL_lines_242 : decode cL_lines 242 = .ok (.iconst 1, 1) := by decide +kernel
theorem dL_lines_243 : decode cL_lines 243 = .ok (.ireturn, 1) := by decide +kernel
theorem dL_shift_0 : decode cL_shift 0 = .ok (.iload_n 1, 1) := by decide +kernel
theorem dL_shift_1 : decode cL_shift 1 = .ok (.newarray .int, 2) := by decide +kernel
theorem dL_shift_3 : decode cL_shift 3 = .ok (.astore_n 3, 1) := by decide +kernel
theorem dL_shift_4 : decode cL_shift 4 = .ok (.iconst 0, 1) := by decide +kernel
theorem dL_shift_5 : decode cL_shift 5 = .ok (.istore 4, 2) := by decide +kernel
theorem dL_shift_7 : decode cL_shift 7 = .ok (.iconst 2, 1) := by decide +kernel
theorem dL_shift_8 : decode cL_shift 8 = .ok (.newarray .int, 2) := by decide +kernel
theorem dL_shift_10 : decode cL_shift 10 = .ok (.astore 5, 2) := by decide +kernel
theorem dL_shift_12 : decode cL_shift 12 = .ok (.iconst 0, 1) := by decide +kernel
theorem dL_shift_13 : decode cL_shift 13 = .ok (.istore 6, 2) := by decide +kernel
theorem dL_shift_15 : decode cL_shift 15 = .ok (.iload 6, 2) := by decide +kernel
theorem dL_shift_17 : decode cL_shift 17 = .ok (.iload_n 1, 1) := by decide +kernel
theorem dL_shift_18 : decode cL_shift 18 = .ok (.if_icmp .ge 19, 3) := by decide +kernel
theorem dL_shift_21 : decode cL_shift 21 = .ok (.aload_n 3, 1) := by decide +kernel
theorem dL_shift_22 : decode cL_shift 22 = .ok (.iload 6, 2) := by decide +kernel
theorem dL_shift_24 : decode cL_shift 24 = .ok (.aload_n 0, 1) := by decide +kernel
theorem dL_shift_25 : decode cL_shift 25 = .ok (.iload 6, 2) := by decide +kernel
theorem dL_shift_27 : decode cL_shift 27 = .ok (.invokestatic 114, 3) := by decide +kernel
theorem dL_shift_30 : decode cL_shift 30 = .ok (.iastore, 1) := by decide +kernel
theorem dL_shift_31 : decode cL_shift 31 = .ok (.iinc 6 1, 3) := by decide +kernel
theorem dL_shift_34 : decode cL_shift 34 = .ok (.goto (-19), 3) := by decide +kernel
theorem dL_shift_37 : decode cL_shift 37 = .ok (.iconst 0, 1) := by decide +kernel
theorem dL_shift_38 : decode cL_shift 38 = .ok (.istore 6, 2) := by decide +kernel
theorem dL_shift_40 : decode cL_shift 40 = .ok (.iload 6, 2) := by decide +kernel
theorem dL_shift_42 : decode cL_shift 42 = .ok (.iconst 2, 1) := by decide +kernel
theorem dL_shift_43 : decode cL_shift 43 = .ok (.if_icmp .ge 84, 3) := by decide +kernel
theorem dL_shift_46 : decode cL_shift 46 = .ok (.iload 4, 2) := by decide +kernel
theorem dL_shift_48 : decode cL_shift 48 = .ok (.aload_n 0, 1) := by decide +kernel
theorem dL_shift_49 : decode cL_shift 49 = .ok (.iload 6, 2) := by decide +kernel
theorem dL_shift_51 : decode cL_shift 51 = .ok (.invokestatic 109, 3) := by decide +kernel
theorem dL_shift_54 : decode cL_shift 54 = .ok (.bipush 45, 2) := by decide +kernel
theorem dL_shift_56 : decode cL_shift 56 = .ok (.if_icmp .ne 7, 3) := by decide +kernel
theorem dL_shift_59 : decode cL_shift 59 = .ok (.iconst 1, 1) := by decide +kernel
theorem dL_shift_60 : decode cL_shift 60 = .ok (.goto 4, 3) := by decide +kernel
theorem dL_shift_63 : decode cL_shift 63 = .ok (.iconst 0, 1) := by decide +kernel
theorem dL_shift_64 : decode cL_shift 64 = .ok (.iadd, 1) := by decide +kernel
theorem dL_shift_65 : decode cL_shift 65 = .ok (.istore 4, 2) := by decide +kernel
theorem dL_shift_67 : decode cL_shift 67 = .ok (.aload 5, 2) := by decide +kernel
theorem dL_shift_69 : decode cL_shift 69 = .ok (.iload 6, 2) := by decide +kernel
theorem dL_shift_71 : decode cL_shift 71 = .ok (.aload_n 0, 1) := by decide +kernel
theorem dL_shift_72 : decode cL_shift 72 = .ok (.iload 6, 2) := by decide +kernel
theorem dL_shift_74 : decode cL_shift 74 = .ok (.invokestatic 107, 3) := by decide +kernel
theorem dL_shift_77 : decode cL_shift 77 = .ok (.ifCond .ge 7, 3) := by decide +kernel
theorem dL_shift_80 : decode cL_shift 80 = .ok (.iconst (-1), 1) := by decide +kernel
theorem dL_shift_81 : decode cL_shift 81 = .ok (.goto 39, 3) := by decide +kernel
theorem dL_shift_84 : decode cL_shift 84 = .ok (.aload_n 0, 1) := by decide +kernel
theorem dL_shift_85 : decode cL_shift 85 = .ok (.iload 6, 2) := by decide +kernel
theorem dL_shift_87 : decode cL_shift 87 = .ok (.invokestatic 109, 3) := by decide +kernel
theorem dL_shift_90 : decode cL_shift 90 = .ok (.bipush 102, 2) := by decide +kernel
theorem dL_shift_92 : decode cL_shift 92 = .ok (.if_icmp .ne 8, 3) := by decide +kernel
theorem dL_shift_95 : decode cL_shift 95 = .ok (.bipush (-2), 2) := by decide +kernel
theorem dL_shift_97 : decode cL_shift 97 = .ok (.goto 23, 3) := by decide +kernel
theorem dL_shift_100 : decode cL_shift 100 = .ok (.aload_n 0, 1) := by decide +kernel
theorem dL_shift_101 : decode cL_shift 101 = .ok (.aload_n 0, 1) := by decide +kernel
theorem dL_shift_102 : decode cL_shift 102 = .ok (.iload 6, 2) := by decide +kernel
theorem dL_shift_104 : decode cL_shift 104 = .ok (.invokestatic 107, 3) := by decide +kernel
theorem dL_shift_107 : decode cL_shift 107 = .ok (.invokestatic 98, 3) := by decide +kernel
theorem dL_shift_110 : decode cL_shift 110 = .ok (.bipush 16, 2) := by decide +kernel
theorem dL_shift_112 : decode cL_shift 112 = .ok (.aload_n 0, 1) := by decide +kernel
theorem dL_shift_113 : decode cL_shift 113 = .ok (.iload 6, 2) := by decide +kernel
theorem dL_shift_115 : decode cL_shift 115 = .ok (.invokestatic 107, 3) := by decide +kernel
theorem dL_shift_118 : decode cL_shift 118 = .ok (.imul, 1) := by decide +kernel
theorem dL_shift_119 : decode cL_shift 119 = .ok (.iadd, 1) := by decide +kernel
theorem dL_shift_120 : decode cL_shift 120 = .ok (.iastore, 1) := by decide +kernel
theorem dL_shift_121 : decode cL_shift 121 = .ok (.iinc 6 1, 3) := by decide +kernel
theorem dL_shift_124 : decode cL_shift 124 = .ok (.goto (-84), 3) := by decide +kernel
theorem dL_shift_127 : decode cL_shift 127 = .ok (.aload_n 0, 1) := by decide +kernel
theorem dL_shift_128 : decode cL_shift 128 = .ok (.invokevirtual 111, 3) := by decide +kernel
theorem dL_shift_131 : decode cL_shift 131 = .ok (.istore 6, 2) := by decide +kernel
theorem dL_shift_133 : decode cL_shift 133 = .ok (.aload_n 0, 1) := by decide +kernel
theorem dL_shift_134 : decode cL_shift 134 = .ok (.iconst 1, 1) := by decide +kernel
theorem dL_shift_135 : decode cL_shift 135 = .ok (.invokestatic 116, 3) := by decide +kernel
theorem dL_shift_138 : decode cL_shift 138 = .ok (.iload 4, 2) := by decide +kernel
theorem dL_shift_140 : decode cL_shift 140 = .ok (.if_icmp .ne 14, 3) := by decide +kernel
theorem dL_shift_143 : decode cL_shift 143 = .ok (.aload_n 0, 1) := by decide +kernel
theorem dL_shift_144 : decode cL_shift 144 = .ok (.invokevirtual 111, 3) := by decide +kernel
theorem dL_shift_147 : decode cL_shift 147 = .ok (.iload 6, 2) := by decide +kernel
theorem dL_shift_149 : decode cL_shift 149 = .ok (.iconst 1, 1) := by decide +kernel
theorem dL_shift_150 : decode cL_shift 150 = .ok (.iadd, 1) := by decide +kernel
theorem dL_shift_151 : decode cL_shift 151 = .ok (.if_icmp .eq 5, 3) := by decide +kernel
theorem dL_shift_154 : decode cL_shift 154 = .ok (.iconst 0, 1) := by decide +kernel
theorem dL_shift_155 : decode cL_shift 155 = .ok (.ireturn, 1) := by decide +kernel
theorem dL_shift_156 : decode cL_shift 156 = .ok (.iconst 0, 1) := by decide +kernel
theorem dL_shift_157 : decode cL_shift 157 = .ok (.istore 7, 2) := by decide +kernel
theorem dL_shift_159 : decode cL_shift 159 = .ok (.iload 7, 2) := by decide +kernel
theorem dL_shift_161 : decode cL_shift 161 = .ok (.iconst 2, 1) := by decide +kernel
theorem dL_shift_162 : decode cL_shift 162 = .ok (.if_icmp .ge 55, 3) := by decide +kernel
theorem dL_shift_165 : decode cL_shift 165 = .ok (.aload 5, 2) := by decide +kernel
theorem dL_shift_167 : decode cL_shift 167 = .ok (.iload 7, 2) := by decide +kernel
theorem dL_shift_169 : decode cL_shift 169 = .ok (.iaload, 1) := by decide +kernel
theorem dL_shift_170 : decode cL_shift 170 = .ok (.ifCond .lt 28, 3) := by decide +kernel
theorem dL_shift_173 : decode cL_shift 173 = .ok (.aload_n 0, 1) := by decide +kernel
theorem dL_shift_174 : decode cL_shift 174 = .ok (.aload 5, 2) := by decide +kernel
theorem dL_shift_176 : decode cL_shift 176 = .ok (.iload 7, 2) := by decide +kernel
theorem dL_shift_178 : decode cL_shift 178 = .ok (.iaload, 1) := by decide +kernel
theorem dL_shift_179 : decode cL_shift 179 = .ok (.bipush 16, 2) := by decide +kernel
theorem dL_shift_181 : decode cL_shift 181 = .ok (.idiv, 1) := by decide +kernel
theorem dL_shift_182 : decode cL_shift 182 = .ok (.invokestatic 98, 3) := by decide +kernel
theorem dL_shift_185 : decode cL_shift 185 = .ok (.aload 5, 2) := by decide +kernel
theorem dL_shift_187 : decode cL_shift 187 = .ok (.iload 7, 2) := by decide +kernel
theorem dL_shift_189 : decode cL_shift 189 = .ok (.iaload, 1) := by decide +kernel
theorem dL_shift_190 : decode cL_shift 190 = .ok (.bipush 16, 2) := by decide +kernel
theorem dL_shift_192 : decode cL_shift 192 = .ok (.irem, 1) := by decide +kernel
theorem dL_shift_193 : decode cL_shift 193 = .ok (.iconst 1, 1) := by decide +kernel
theorem dL_shift_194 : decode cL_shift 194 = .ok (.isub, 1) := by decide +kernel
theorem dL_shift_195 : decode cL_shift 195 = .ok (.if_icmp .ne 14, 3) := by decide +kernel
theorem dL_shift_198 : decode cL_shift 198 = .ok (.aload_n 0, 1) := by decide +kernel
theorem dL_shift_199 : decode cL_shift 199 = .ok (.iload 7, 2) := by decide +kernel
theorem dL_shift_201 : decode cL_shift 201 = .ok (.invokestatic 109, 3) := by decide +kernel
theorem dL_shift_204 : decode cL_shift 204 = .ok (.bipush 102, 2) := by decide +kernel
theorem dL_shift_206 : decode cL_shift 206 = .ok (.if_icmp .ne 5, 3) := by decide +kernel
theorem dL_shift_209 : decode cL_shift 209 = .ok (.iconst 0, 1) := by decide +kernel
theorem dL_shift_210 : decode cL_shift 210 = .ok (.ireturn, 1) := by decide +kernel
theorem dL_shift_211 : decode cL_shift 211 = .ok (.iinc 7 1, 3) := by decide +kernel
theorem dL_shift_214 : decode cL_shift 214 = .ok (.goto (-55), 3) := by decide +kernel
theorem dL_shift_217 : decode cL_shift 217 = .ok (.iconst 0, 1) := by decide +kernel
theorem dL_shift_218 : decode cL_shift 218 = .ok (.istore 7, 2) := by decide +kernel
theorem dL_shift_220 : decode cL_shift 220 = .ok (.iload 7, 2) := by decide +kernel
theorem dL_shift_222 : decode cL_shift 222 = .ok (.iload_n 1, 1) := by decide +kernel
theorem dL_shift_223 : decode cL_shift 223 = .ok (.if_icmp .ge 50, 3) := by decide +kernel
theorem dL_shift_226 : decode cL_shift 226 = .ok (.aload_n 3, 1) := by decide +kernel
theorem dL_shift_227 : decode cL_shift 227 = .ok (.iload 7, 2) := by decide +kernel
theorem dL_shift_229 : decode cL_shift 229 = .ok (.iaload, 1) := by decide +kernel
theorem dL_shift_230 : decode cL_shift 230 = .ok (.ifCond .lt 37, 3) := by decide +kernel
theorem dL_shift_233 : decode cL_shift 233 = .ok (.aload_n 0, 1) := by decide +kernel
theorem dL_shift_234 : decode cL_shift 234 = .ok (.iload 7, 2) := by decide +kernel
theorem dL_shift_236 : decode cL_shift 236 = .ok (.invokestatic 114, 3) := by decide +kernel
theorem dL_shift_239 : decode cL_shift 239 = .ok (.iconst 0, 1) := by decide +kernel
theorem dL_shift_240 : decode cL_shift 240 = .ok (.aload_n 3, 1) := by decide +kernel
theorem dL_shift_241 : decode cL_shift 241 = .ok (.iload 7, 2) := by decide +kernel
theorem dL_shift_243 : decode cL_shift 243 = .ok (.iaload, 1) := by decide +kernel
theorem dL_shift_244 : decode cL_shift 244 = .ok (.aload_n 2, 1) := by decide +kernel
theorem dL_shift_245 : decode cL_shift 245 = .ok (.iload 7, 2) := by decide +kernel
theorem dL_shift_247 : decode cL_shift 247 = .ok (.caload, 1) := by decide +kernel
theorem dL_shift_248 : decode cL_shift 248 = .ok (.bipush 99, 2) := by decide +kernel
theorem dL_shift_250 : decode cL_shift 250 = .ok (.if_icmp .ne 7, 3) := by decide +kernel
theorem dL_shift_253 : decode cL_shift 253 = .ok (.iconst 0, 1) := by decide +kernel
theorem dL_shift_254 : decode cL_shift 254 = .ok (.goto 4, 3) := by decide +kernel
theorem dL_shift_257 : decode cL_shift 257 = .ok (.iconst 1, 1) := by decide +kernel
theorem dL_shift_258 : decode cL_shift 258 = .ok (.isub, 1) := by decide +kernel
theorem dL_shift_259 : decode cL_shift 259 = .ok (.invokestatic 118, 3) := by decide +kernel
theorem dL_shift_262 : decode cL_shift 262 = .ok (.if_icmp .eq 5, 3) := by decide +kernel
theorem dL_shift_265 : decode cL_shift 265 = .ok (.iconst 0, 1) := by decide +kernel
theorem dL_shift_266 : decode cL_shift 266 = .ok (.ireturn, 1) := by decide +kernel
theorem dL_shift_267 : decode cL_shift 267 = .ok (.iinc 7 1, 3) := by decide +kernel
theorem dL_shift_270 : decode cL_shift 270 = .ok (.goto (-50), 3) := by decide +kernel
theorem dL_shift_273 : decode cL_shift 273 = .ok (.iconst 1, 1) := by decide +kernel
theorem dL_shift_274 : decode cL_shift 274 = .ok (.ireturn, 1) := by decide +kernel
end
section
theorem dL_law_0 : decode cL_law 0 = .ok (.new 15, 3) := by decide +kernel
theorem dL_law_3 : decode cL_law 3 = .ok (.dup, 1) := by decide +kernel
theorem dL_law_4 : decode cL_law 4 = .ok (.invokespecial 123, 3) := by decide +kernel
theorem dL_law_7 : decode cL_law 7 = .ok (.astore_n 1, 1) := by decide +kernel
theorem dL_law_8 : decode cL_law 8 = .ok (.iconst 2, 1) := by decide +kernel
theorem dL_law_9 : decode cL_law 9 = .ok (.newarray .int, 2) := by decide +kernel
theorem dL_law_11 : decode cL_law 11 = .ok (.astore_n 2, 1) := by decide +kernel
theorem dL_law_12 : decode cL_law 12 = .ok (.iconst 0, 1) := by decide +kernel
theorem dL_law_13 : decode cL_law 13 = .ok (.istore_n 3, 1) := by decide +kernel
theorem dL_law_14 : decode cL_law 14 = .ok (.iload_n 3, 1) := by decide +kernel
theorem dL_law_15 : decode cL_law 15 = .ok (.iconst 2, 1) := by decide +kernel
theorem dL_law_16 : decode cL_law 16 = .ok (.if_icmp .ge 63, 3) := by decide +kernel
theorem dL_law_19 : decode cL_law 19 = .ok (.aload_n 2, 1) := by decide +kernel
theorem dL_law_20 : decode cL_law 20 = .ok (.iload_n 3, 1) := by decide +kernel
theorem dL_law_21 : decode cL_law 21 = .ok (.iconst 5, 1) := by decide +kernel
theorem dL_law_22 : decode cL_law 22 = .ok (.aload_n 0, 1) := by decide +kernel
theorem dL_law_23 : decode cL_law 23 = .ok (.iload_n 3, 1) := by decide +kernel
theorem dL_law_24 : decode cL_law 24 = .ok (.bipush 30, 2) := by decide +kernel
theorem dL_law_26 : decode cL_law 26 = .ok (.invokestatic 124, 3) := by decide +kernel
theorem dL_law_29 : decode cL_law 29 = .ok (.iadd, 1) := by decide +kernel
theorem dL_law_30 : decode cL_law 30 = .ok (.iastore, 1) := by decide +kernel
theorem dL_law_31 : decode cL_law 31 = .ok (.aload_n 1, 1) := by decide +kernel
theorem dL_law_32 : decode cL_law 32 = .ok (.aload_n 2, 1) := by decide +kernel
theorem dL_law_33 : decode cL_law 33 = .ok (.iload_n 3, 1) := by decide +kernel
theorem dL_law_34 : decode cL_law 34 = .ok (.iaload, 1) := by decide +kernel
theorem dL_law_35 : decode cL_law 35 = .ok (.bipush 10, 2) := by decide +kernel
theorem dL_law_37 : decode cL_law 37 = .ok (.aload_n 0, 1) := by decide +kernel
theorem dL_law_38 : decode cL_law 38 = .ok (.iconst 2, 1) := by decide +kernel
theorem dL_law_39 : decode cL_law 39 = .ok (.iload_n 3, 1) := by decide +kernel
theorem dL_law_40 : decode cL_law 40 = .ok (.iadd, 1) := by decide +kernel
theorem dL_law_41 : decode cL_law 41 = .ok (.bipush 60, 2) := by decide +kernel
theorem dL_law_43 : decode cL_law 43 = .ok (.invokestatic 124, 3) := by decide +kernel
theorem dL_law_46 : decode cL_law 46 = .ok (.iadd, 1) := by decide +kernel
theorem dL_law_47 : decode cL_law 47 = .ok (.invokestatic 128, 3) := by decide +kernel
theorem dL_law_50 : decode cL_law 50 = .ok (.iload_n 3, 1) := by decide +kernel
theorem dL_law_51 : decode cL_law 51 = .ok (.if_icmp .ne 20, 3) := by decide +kernel
theorem dL_law_54 : decode cL_law 54 = .ok (.aload_n 1, 1) := by decide +kernel
theorem dL_law_55 : decode cL_law 55 = .ok (.iload_n 3, 1) := by decide +kernel
theorem dL_law_56 : decode cL_law 56 = .ok (.aload_n 0, 1) := by decide +kernel
theorem dL_law_57 : decode cL_law 57 = .ok (.iconst 4, 1) := by decide +kernel
theorem dL_law_58 : decode cL_law 58 = .ok (.iload_n 3, 1) := by decide +kernel
theorem dL_law_59 : decode cL_law 59 = .ok (.iadd, 1) := by decide +kernel
theorem dL_law_60 : decode cL_law 60 = .ok (.bipush 20, 2) := by decide +kernel
theorem dL_law_62 : decode cL_law 62 = .ok (.invokestatic 124, 3) := by decide +kernel
theorem dL_law_65 : decode cL_law 65 = .ok (.invokestatic 131, 3) := by decide +kernel
theorem dL_law_68 : decode cL_law 68 = .ok (.ifCond .eq 5, 3) := by decide +kernel
theorem dL_law_71 : decode cL_law 71 = .ok (.iconst 0, 1) := by decide +kernel
theorem dL_law_72 : decode cL_law 72 = .ok (.ireturn, 1) := by decide +kernel
theorem dL_law_73 : decode cL_law 73 = .ok (.iinc 3 1, 3) := by decide +kernel
theorem dL_law_76 : decode cL_law 76 = .ok (.goto (-62), 3) := by decide +kernel
theorem dL_law_79 : decode cL_law 79 = .ok (.iconst 1, 1) := by decide +kernel
theorem dL_law_80 : decode cL_law 80 = .ok (.aload_n 0, 1) := by decide +kernel
theorem dL_law_81 : decode cL_law 81 = .ok (.bipush 6, 2) := by decide +kernel
theorem dL_law_83 : decode cL_law 83 = .ok (.bipush 8, 2) := by decide +kernel
theorem dL_law_85 : decode cL_law 85 = .ok (.invokestatic 124, 3) := by decide +kernel
theorem dL_law_88 : decode cL_law 88 = .ok (.iadd, 1) := by decide +kernel
theorem dL_law_89 : decode cL_law 89 = .ok (.istore_n 3, 1) := by decide +kernel
theorem dL_law_90 : decode cL_law 90 = .ok (.iload_n 3, 1) := by decide +kernel
theorem dL_law_91 : decode cL_law 91 = .ok (.newarray .int, 2) := by decide +kernel
theorem dL_law_93 : decode cL_law 93 = .ok (.astore 4, 2) := by decide +kernel
theorem dL_law_95 : decode cL_law 95 = .ok (.iload_n 3, 1) := by decide +kernel
theorem dL_law_96 : decode cL_law 96 = .ok (.newarray .int, 2) := by decide +kernel
theorem dL_law_98 : decode cL_law 98 = .ok (.astore 5, 2) := by decide +kernel
theorem dL_law_100 : decode cL_law 100 = .ok (.iload_n 3, 1) := by decide +kernel
theorem dL_law_101 : decode cL_law 101 = .ok (.newarray .int, 2) := by decide +kernel
theorem dL_law_103 : decode cL_law 103 = .ok (.astore 6, 2) := by decide +kernel
theorem dL_law_105 : decode cL_law 105 = .ok (.bipush 10, 2) := by decide +kernel
theorem dL_law_107 : decode cL_law 107 = .ok (.newarray .boolean, 2) := by decide +kernel
theorem dL_law_109 : decode cL_law 109 = .ok (.astore 7, 2) := by decide +kernel
theorem dL_law_111 : decode cL_law 111 = .ok (.bipush 10, 2) := by decide +kernel
theorem dL_law_113 : decode cL_law 113 = .ok (.newarray .boolean, 2) := by decide +kernel
theorem dL_law_115 : decode cL_law 115 = .ok (.astore 8, 2) := by decide +kernel
theorem dL_law_117 : decode cL_law 117 = .ok (.iload_n 3, 1) := by decide +kernel
theorem dL_law_118 : decode cL_law 118 = .ok (.newarray .char, 2) := by decide +kernel
theorem dL_law_120 : decode cL_law 120 = .ok (.astore 9, 2) := by decide +kernel
theorem dL_law_122 : decode cL_law 122 = .ok (.iconst 0, 1) := by decide +kernel
theorem dL_law_123 : decode cL_law 123 = .ok (.istore 10, 2) := by decide +kernel
theorem dL_law_125 : decode cL_law 125 = .ok (.iload 10, 2) := by decide +kernel
theorem dL_law_127 : decode cL_law 127 = .ok (.iload_n 3, 1) := by decide +kernel
theorem dL_law_128 : decode cL_law 128 = .ok (.if_icmp .ge 100, 3) := by decide +kernel
theorem dL_law_131 : decode cL_law 131 = .ok (.aload_n 0, 1) := by decide +kernel
theorem dL_law_132 : decode cL_law 132 = .ok (.bipush 7, 2) := by decide +kernel
theorem dL_law_134 : decode cL_law 134 = .ok (.iload 10, 2) := by decide +kernel
theorem dL_law_136 : decode cL_law 136 = .ok (.iadd, 1) := by decide +kernel
theorem dL_law_137 : decode cL_law 137 = .ok (.invokestatic 8, 3) := by decide +kernel
theorem dL_law_140 : decode cL_law 140 = .ok (.iconst 1, 1) := by decide +kernel
theorem dL_law_141 : decode cL_law 141 = .ok (.iushr, 1) := by decide +kernel
theorem dL_law_142 : decode cL_law 142 = .ok (.istore 11, 2) := by decide +kernel
theorem dL_law_144 : decode cL_law 144 = .ok (.aload 4, 2) := by decide +kernel
theorem dL_law_146 : decode cL_law 146 = .ok (.iload 10, 2) := by decide +kernel
theorem dL_law_148 : decode cL_law 148 = .ok (.iload 11, 2) := by decide +kernel
theorem dL_law_150 : decode cL_law 150 = .ok (.iconst 2, 1) := by decide +kernel
theorem dL_law_151 : decode cL_law 151 = .ok (.irem, 1) := by decide +kernel
theorem dL_law_152 : decode cL_law 152 = .ok (.iastore, 1) := by decide +kernel
theorem dL_law_153 : decode cL_law 153 = .ok (.aload 6, 2) := by decide +kernel
theorem dL_law_155 : decode cL_law 155 = .ok (.iload 10, 2) := by decide +kernel
theorem dL_law_157 : decode cL_law 157 = .ok (.iload 11, 2) := by decide +kernel
theorem dL_law_159 : decode cL_law 159 = .ok (.iconst 2, 1) := by decide +kernel
theorem dL_law_160 : decode cL_law 160 = .ok (.idiv, 1) := by decide +kernel
theorem dL_law_161 : decode cL_law 161 = .ok (.iconst 4, 1) := by decide +kernel
theorem dL_law_162 : decode cL_law 162 = .ok (.irem, 1) := by decide +kernel
theorem dL_law_163 : decode cL_law 163 = .ok (.iastore, 1) := by decide +kernel
theorem dL_law_164 : decode cL_law 164 = .ok (.aload 5, 2) := by decide +kernel
theorem dL_law_166 : decode cL_law 166 = .ok (.iload 10, 2) := by decide +kernel
theorem dL_law_168 : decode cL_law 168 = .ok (.iconst 1, 1) := by decide +kernel
theorem dL_law_169 : decode cL_law 169 = .ok (.iload 11, 2) := by decide +kernel
theorem dL_law_171 : decode cL_law 171 = .ok (.bipush 64, 2) := by decide +kernel
theorem dL_law_173 : decode cL_law 173 = .ok (.idiv, 1) := by decide +kernel
theorem dL_law_174 : decode cL_law 174 = .ok (.bipush 9, 2) := by decide +kernel
theorem dL_law_176 : decode cL_law 176 = .ok (.irem, 1) := by decide +kernel
theorem dL_law_177 : decode cL_law 177 = .ok (.iadd, 1) := by decide +kernel
theorem dL_law_178 : decode cL_law 178 = .ok (.iastore, 1) := by decide +kernel
theorem dL_law_179 : decode cL_law 179 = .ok (.aload_n 1, 1) := by decide +kernel
theorem dL_law_180 : decode cL_law 180 = .ok (.aload 4, 2) := by decide +kernel
theorem dL_law_182 : decode cL_law 182 = .ok (.iload 10, 2) := by decide +kernel
theorem dL_law_184 : decode cL_law 184 = .ok (.iaload, 1) := by decide +kernel
theorem dL_law_185 : decode cL_law 185 = .ok (.aload 6, 2) := by decide +kernel
theorem dL_law_187 : decode cL_law 187 = .ok (.iload 10, 2) := by decide +kernel
theorem dL_law_189 : decode cL_law 189 = .ok (.iaload, 1) := by decide +kernel
theorem dL_law_190 : decode cL_law 190 = .ok (.iload 11, 2) := by decide +kernel
theorem dL_law_192 : decode cL_law 192 = .ok (.sipush 1024, 3) := by decide +kernel
theorem dL_law_195 : decode cL_law 195 = .ok (.idiv, 1) := by decide +kernel
theorem dL_law_196 : decode cL_law 196 = .ok (.iconst 5, 1) := by decide +kernel
theorem dL_law_197 : decode cL_law 197 = .ok (.irem, 1) := by decide +kernel
theorem dL_law_198 : decode cL_law 198 = .ok (.aload 5, 2) := by decide +kernel
theorem dL_law_200 : decode cL_law 200 = .ok (.iload 10, 2) := by decide +kernel
theorem dL_law_202 : decode cL_law 202 = .ok (.iaload, 1) := by decide +kernel
theorem dL_law_203 : decode cL_law 203 = .ok (.iload 11, 2) := by decide +kernel
theorem dL_law_205 : decode cL_law 205 = .ok (.sipush 8192, 3) := by decide +kernel
theorem dL_law_208 : decode cL_law 208 = .ok (.idiv, 1) := by decide +kernel
theorem dL_law_209 : decode cL_law 209 = .ok (.bipush 25, 2) := by decide +kernel
theorem dL_law_211 : decode cL_law 211 = .ok (.irem, 1) := by decide +kernel
theorem dL_law_212 : decode cL_law 212 = .ok (.invokestatic 133, 3) := by decide +kernel
theorem dL_law_215 : decode cL_law 215 = .ok (.iload 10, 2) := by decide +kernel
theorem dL_law_217 : decode cL_law 217 = .ok (.if_icmp .eq 5, 3) := by decide +kernel
theorem dL_law_220 : decode cL_law 220 = .ok (.iconst 0, 1) := by decide +kernel
theorem dL_law_221 : decode cL_law 221 = .ok (.ireturn, 1) := by decide +kernel
theorem dL_law_222 : decode cL_law 222 = .ok (.iinc 10 1, 3) := by decide +kernel
theorem dL_law_225 : decode cL_law 225 = .ok (.goto (-100), 3) := by decide +kernel
theorem dL_law_228 : decode cL_law 228 = .ok (.iconst 0, 1) := by decide +kernel
theorem dL_law_229 : decode cL_law 229 = .ok (.istore 10, 2) := by decide +kernel
theorem dL_law_231 : decode cL_law 231 = .ok (.iload 10, 2) := by decide +kernel
theorem dL_law_233 : decode cL_law 233 = .ok (.iconst 2, 1) := by decide +kernel
theorem dL_law_234 : decode cL_law 234 = .ok (.if_icmp .ge 32, 3) := by decide +kernel
theorem dL_law_237 : decode cL_law 237 = .ok (.aload_n 1, 1) := by decide +kernel
theorem dL_law_238 : decode cL_law 238 = .ok (.iload 10, 2) := by decide +kernel
theorem dL_law_240 : decode cL_law 240 = .ok (.invokestatic 136, 3) := by decide +kernel
theorem dL_law_243 : decode cL_law 243 = .ok (.ifCond .lt 15, 3) := by decide +kernel
theorem dL_law_246 : decode cL_law 246 = .ok (.aload_n 1, 1) := by decide +kernel
theorem dL_law_247 : decode cL_law 247 = .ok (.iload 10, 2) := by decide +kernel
theorem dL_law_249 : decode cL_law 249 = .ok (.invokestatic 136, 3) := by decide +kernel
theorem dL_law_252 : decode cL_law 252 = .ok (.sipush (-1002), 3) := by decide +kernel
theorem dL_law_255 : decode cL_law 255 = .ok (.if_icmp .eq 5, 3) := by decide +kernel
theorem dL_law_258 : decode cL_law 258 = .ok (.iconst 0, 1) := by decide +kernel
theorem dL_law_259 : decode cL_law 259 = .ok (.ireturn, 1) := by decide +kernel
theorem dL_law_260 : decode cL_law 260 = .ok (.iinc 10 1, 3) := by decide +kernel
theorem dL_law_263 : decode cL_law 263 = .ok (.goto (-32), 3) := by decide +kernel
theorem dL_law_266 : decode cL_law 266 = .ok (.iconst 0, 1) := by decide +kernel
theorem dL_law_267 : decode cL_law 267 = .ok (.istore 10, 2) := by decide +kernel
theorem dL_law_269 : decode cL_law 269 = .ok (.iload 10, 2) := by decide +kernel
theorem dL_law_271 : decode cL_law 271 = .ok (.bipush 36, 2) := by decide +kernel
theorem dL_law_273 : decode cL_law 273 = .ok (.if_icmp .ge 519, 3) := by decide +kernel
theorem dL_law_276 : decode cL_law 276 = .ok (.aload_n 0, 1) := by decide +kernel
theorem dL_law_277 : decode cL_law 277 = .ok (.bipush 16, 2) := by decide +kernel
theorem dL_law_279 : decode cL_law 279 = .ok (.iload 10, 2) := by decide +kernel
theorem dL_law_281 : decode cL_law 281 = .ok (.iadd, 1) := by decide +kernel
theorem dL_law_282 : decode cL_law 282 = .ok (.invokestatic 8, 3) := by decide +kernel
theorem dL_law_285 : decode cL_law 285 = .ok (.iconst 1, 1) := by decide +kernel
theorem dL_law_286 : decode cL_law 286 = .ok (.iushr, 1) := by decide +kernel
theorem dL_law_287 : decode cL_law 287 = .ok (.istore 11, 2) := by decide +kernel
theorem dL_law_289 : decode cL_law 289 = .ok (.iload 11, 2) := by decide +kernel
theorem dL_law_291 : decode cL_law 291 = .ok (.bipush 16, 2) := by decide +kernel
theorem dL_law_293 : decode cL_law 293 = .ok (.idiv, 1) := by decide +kernel
theorem dL_law_294 : decode cL_law 294 = .ok (.iload_n 3, 1) := by decide +kernel
theorem dL_law_295 : decode cL_law 295 = .ok (.irem, 1) := by decide +kernel
theorem dL_law_296 : decode cL_law 296 = .ok (.istore 12, 2) := by decide +kernel
theorem dL_law_298 : decode cL_law 298 = .ok (.iload 11, 2) := by decide +kernel
theorem dL_law_300 : decode cL_law 300 = .ok (.sipush 256, 3) := by decide +kernel
theorem dL_law_303 : decode cL_law 303 = .ok (.idiv, 1) := by decide +kernel
theorem dL_law_304 : decode cL_law 304 = .ok (.iconst 4, 1) := by decide +kernel
theorem dL_law_305 : decode cL_law 305 = .ok (.irem, 1) := by decide +kernel
theorem dL_law_306 : decode cL_law 306 = .ok (.istore 13, 2) := by decide +kernel
theorem dL_law_308 : decode cL_law 308 = .ok (.iconst 1, 1) := by decide +kernel
theorem dL_law_309 : decode cL_law 309 = .ok (.istore 14, 2) := by decide +kernel
theorem dL_law_311 : decode cL_law 311 = .ok (.iload 11, 2) := by decide +kernel
theorem dL_law_313 : decode cL_law 313 = .ok (.bipush 16, 2) := by decide +kernel
theorem dL_law_315 : decode cL_law 315 = .ok (.irem, 1) := by decide +kernel
theorem dL_law_316 : decode cL_law 316 = .ok (.tableswitch 425 0 10 #[60, 60, 101, 101, 101, 160, 160, 218, 218, 218, 314], 60) := by decide +kernel
theorem dL_law_376 : decode cL_law 376 = .ok (.aload_n 1, 1) := by decide +kernel
theorem dL_law_377 : decode cL_law 377 = .ok (.iload 13, 2) := by decide +kernel
theorem dL_law_379 : decode cL_law 379 = .ok (.invokestatic 138, 3) := by decide +kernel
theorem dL_law_382 : decode cL_law 382 = .ok (.sipush (-1002), 3) := by decide +kernel
theorem dL_law_385 : decode cL_law 385 = .ok (.if_icmp .ne 7, 3) := by decide +kernel
theorem dL_law_388 : decode cL_law 388 = .ok (.iconst 1, 1) := by decide +kernel
theorem dL_law_389 : decode cL_law 389 = .ok (.goto 4, 3) := by decide +kernel
theorem dL_law_392 : decode cL_law 392 = .ok (.iconst 0, 1) := by decide +kernel
theorem dL_law_393 : decode cL_law 393 = .ok (.aload 7, 2) := by decide +kernel
theorem dL_law_395 : decode cL_law 395 = .ok (.iload 13, 2) := by decide +kernel
theorem dL_law_397 : decode cL_law 397 = .ok (.baload, 1) := by decide +kernel
theorem dL_law_398 : decode cL_law 398 = .ok (.if_icmp .ne 7, 3) := by decide +kernel
theorem dL_law_401 : decode cL_law 401 = .ok (.iconst 1, 1) := by decide +kernel
theorem dL_law_402 : decode cL_law 402 = .ok (.goto 4, 3) := by decide +kernel
theorem dL_law_405 : decode cL_law 405 = .ok (.iconst 0, 1) := by decide +kernel
theorem dL_law_406 : decode cL_law 406 = .ok (.istore 14, 2) := by decide +kernel
theorem dL_law_408 : decode cL_law 408 = .ok (.aload 7, 2) := by decide +kernel
theorem dL_law_410 : decode cL_law 410 = .ok (.iload 13, 2) := by decide +kernel
theorem dL_law_412 : decode cL_law 412 = .ok (.iconst 1, 1) := by decide +kernel
theorem dL_law_413 : decode cL_law 413 = .ok (.bastore, 1) := by decide +kernel
theorem dL_law_414 : decode cL_law 414 = .ok (.goto 336, 3) := by decide +kernel
theorem dL_law_417 : decode cL_law 417 = .ok (.iload 11, 2) := by decide +kernel
theorem dL_law_419 : decode cL_law 419 = .ok (.sipush 1024, 3) := by decide +kernel
theorem dL_law_422 : decode cL_law 422 = .ok (.idiv, 1) := by decide +kernel
theorem dL_law_423 : decode cL_law 423 = .ok (.iconst 4, 1) := by decide +kernel
theorem dL_law_424 : decode cL_law 424 = .ok (.irem, 1) := by decide +kernel
theorem dL_law_425 : decode cL_law 425 = .ok (.ifCond .le 7, 3) := by decide +kernel
theorem dL_law_428 : decode cL_law 428 = .ok (.iconst 1, 1) := by decide +kernel
theorem dL_law_429 : decode cL_law 429 = .ok (.goto 4, 3) := by decide +kernel
theorem dL_law_432 : decode cL_law 432 = .ok (.iconst 0, 1) := by decide +kernel
theorem dL_law_433 : decode cL_law 433 = .ok (.istore 15, 2) := by decide +kernel
theorem dL_law_435 : decode cL_law 435 = .ok (.aload_n 1, 1) := by decide +kernel
theorem dL_law_436 : decode cL_law 436 = .ok (.iload 13, 2) := by decide +kernel
theorem dL_law_438 : decode cL_law 438 = .ok (.iload 15, 2) := by decide +kernel
theorem dL_law_440 : decode cL_law 440 = .ok (.invokestatic 140, 3) := by decide +kernel
theorem dL_law_443 : decode cL_law 443 = .ok (.aload 8, 2) := by decide +kernel
theorem dL_law_445 : decode cL_law 445 = .ok (.iload 13, 2) := by decide +kernel
theorem dL_law_447 : decode cL_law 447 = .ok (.baload, 1) := by decide +kernel
theorem dL_law_448 : decode cL_law 448 = .ok (.ifCond .eq 7, 3) := by decide +kernel
theorem dL_law_451 : decode cL_law 451 = .ok (.iconst 1, 1) := by decide +kernel
theorem dL_law_452 : decode cL_law 452 = .ok (.goto 4, 3) := by decide +kernel
theorem dL_law_455 : decode cL_law 455 = .ok (.iconst 0, 1) := by decide +kernel
theorem dL_law_456 : decode cL_law 456 = .ok (.if_icmp .ne 7, 3) := by decide +kernel
theorem dL_law_459 : decode cL_law 459 = .ok (.iconst 1, 1) := by decide +kernel
theorem dL_law_460 : decode cL_law 460 = .ok (.goto 4, 3) := by decide +kernel
theorem dL_law_463 : decode cL_law 463 = .ok (.iconst 0, 1) := by decide +kernel
theorem dL_law_464 : decode cL_law 464 = .ok (.istore 14, 2) := by decide +kernel
theorem dL_law_466 : decode cL_law 466 = .ok (.aload 8, 2) := by decide +kernel
theorem dL_law_468 : decode cL_law 468 = .ok (.iload 13, 2) := by decide +kernel
theorem dL_law_470 : decode cL_law 470 = .ok (.iload 15, 2) := by decide +kernel
theorem dL_law_472 : decode cL_law 472 = .ok (.bastore, 1) := by decide +kernel
theorem dL_law_473 : decode cL_law 473 = .ok (.goto 277, 3) := by decide +kernel
theorem dL_law_476 : decode cL_law 476 = .ok (.aload_n 1, 1) := by decide +kernel
theorem dL_law_477 : decode cL_law 477 = .ok (.iload 12, 2) := by decide +kernel
theorem dL_law_479 : decode cL_law 479 = .ok (.iconst 1, 1) := by decide +kernel
theorem dL_law_480 : decode cL_law 480 = .ok (.iload 11, 2) := by decide +kernel
theorem dL_law_482 : decode cL_law 482 = .ok (.sipush 1024, 3) := by decide +kernel
theorem dL_law_485 : decode cL_law 485 = .ok (.idiv, 1) := by decide +kernel
theorem dL_law_486 : decode cL_law 486 = .ok (.bipush 20, 2) := by decide +kernel
theorem dL_law_488 : decode cL_law 488 = .ok (.irem, 1) := by decide +kernel
theorem dL_law_489 : decode cL_law 489 = .ok (.iadd, 1) := by decide +kernel
theorem dL_law_490 : decode cL_law 490 = .ok (.invokestatic 143, 3) := by decide +kernel
theorem dL_law_493 : decode cL_law 493 = .ok (.iconst (-1), 1) := by decide +kernel
theorem dL_law_494 : decode cL_law 494 = .ok (.if_icmp .lt 27, 3) := by decide +kernel
theorem dL_law_497 : decode cL_law 497 = .ok (.aload_n 1, 1) := by decide +kernel
theorem dL_law_498 : decode cL_law 498 = .ok (.iload 12, 2) := by decide +kernel
theorem dL_law_500 : decode cL_law 500 = .ok (.invokestatic 114, 3) := by decide +kernel
theorem dL_law_503 : decode cL_law 503 = .ok (.iconst 1, 1) := by decide +kernel
theorem dL_law_504 : decode cL_law 504 = .ok (.iload 11, 2) := by decide +kernel
theorem dL_law_506 : decode cL_law 506 = .ok (.sipush 1024, 3) := by decide +kernel
theorem dL_law_509 : decode cL_law 509 = .ok (.idiv, 1) := by decide +kernel
theorem dL_law_510 : decode cL_law 510 = .ok (.bipush 20, 2) := by decide +kernel
theorem dL_law_512 : decode cL_law 512 = .ok (.irem, 1) := by decide +kernel
theorem dL_law_513 : decode cL_law 513 = .ok (.iadd, 1) := by decide +kernel
theorem dL_law_514 : decode cL_law 514 = .ok (.if_icmp .ne 7, 3) := by decide +kernel
theorem dL_law_517 : decode cL_law 517 = .ok (.iconst 1, 1) := by decide +kernel
theorem dL_law_518 : decode cL_law 518 = .ok (.goto 4, 3) := by decide +kernel
theorem dL_law_521 : decode cL_law 521 = .ok (.iconst 0, 1) := by decide +kernel
theorem dL_law_522 : decode cL_law 522 = .ok (.istore 14, 2) := by decide +kernel
theorem dL_law_524 : decode cL_law 524 = .ok (.aload 9, 2) := by decide +kernel
theorem dL_law_526 : decode cL_law 526 = .ok (.iload 12, 2) := by decide +kernel
theorem dL_law_528 : decode cL_law 528 = .ok (.bipush 114, 2) := by decide +kernel
theorem dL_law_530 : decode cL_law 530 = .ok (.castore, 1) := by decide +kernel
theorem dL_law_531 : decode cL_law 531 = .ok (.goto 219, 3) := by decide +kernel
theorem dL_law_534 : decode cL_law 534 = .ok (.ldc 145, 2) := by decide +kernel
theorem dL_law_536 : decode cL_law 536 = .ok (.iload 11, 2) := by decide +kernel
theorem dL_law_538 : decode cL_law 538 = .ok (.sipush 1024, 3) := by decide +kernel
theorem dL_law_541 : decode cL_law 541 = .ok (.idiv, 1) := by decide +kernel
theorem dL_law_542 : decode cL_law 542 = .ok (.iconst 5, 1) := by decide +kernel
theorem dL_law_543 : decode cL_law 543 = .ok (.irem, 1) := by decide +kernel
theorem dL_law_544 : decode cL_law 544 = .ok (.invokevirtual 147, 3) := by decide +kernel
theorem dL_law_547 : decode cL_law 547 = .ok (.istore 15, 2) := by decide +kernel
theorem dL_law_549 : decode cL_law 549 = .ok (.aload_n 1, 1) := by decide +kernel
theorem dL_law_550 : decode cL_law 550 = .ok (.iload 12, 2) := by decide +kernel
theorem dL_law_552 : decode cL_law 552 = .ok (.iload 15, 2) := by decide +kernel
theorem dL_law_554 : decode cL_law 554 = .ok (.invokestatic 152, 3) := by decide +kernel
theorem dL_law_557 : decode cL_law 557 = .ok (.istore 16, 2) := by decide +kernel
theorem dL_law_559 : decode cL_law 559 = .ok (.aload 9, 2) := by decide +kernel
theorem dL_law_561 : decode cL_law 561 = .ok (.iload 12, 2) := by decide +kernel
theorem dL_law_563 : decode cL_law 563 = .ok (.caload, 1) := by decide +kernel
theorem dL_law_564 : decode cL_law 564 = .ok (.ifCond .ne 19, 3) := by decide +kernel
theorem dL_law_567 : decode cL_law 567 = .ok (.iload 16, 2) := by decide +kernel
theorem dL_law_569 : decode cL_law 569 = .ok (.sipush (-1003), 3) := by decide +kernel
theorem dL_law_572 : decode cL_law 572 = .ok (.if_icmp .ne 7, 3) := by decide +kernel
theorem dL_law_575 : decode cL_law 575 = .ok (.iconst 1, 1) := by decide +kernel
theorem dL_law_576 : decode cL_law 576 = .ok (.goto 37, 3) := by decide +kernel
theorem dL_law_579 : decode cL_law 579 = .ok (.iconst 0, 1) := by decide +kernel
theorem dL_law_580 : decode cL_law 580 = .ok (.goto 33, 3) := by decide +kernel
theorem dL_law_583 : decode cL_law 583 = .ok (.iload 16, 2) := by decide +kernel
theorem dL_law_585 : decode cL_law 585 = .ok (.aload 9, 2) := by decide +kernel
theorem dL_law_587 : decode cL_law 587 = .ok (.iload 12, 2) := by decide +kernel
theorem dL_law_589 : decode cL_law 589 = .ok (.caload, 1) := by decide +kernel
theorem dL_law_590 : decode cL_law 590 = .ok (.if_icmp .eq 18, 3) := by decide +kernel
theorem dL_law_593 : decode cL_law 593 = .ok (.iload 16, 2) := by decide +kernel
theorem dL_law_595 : decode cL_law 595 = .ok (.sipush (-1004), 3) := by decide +kernel
theorem dL_law_598 : decode cL_law 598 = .ok (.if_icmp .ne 14, 3) := by decide +kernel
theorem dL_law_601 : decode cL_law 601 = .ok (.iload 15, 2) := by decide +kernel
theorem dL_law_603 : decode cL_law 603 = .ok (.bipush 99, 2) := by decide +kernel
theorem dL_law_605 : decode cL_law 605 = .ok (.if_icmp .ne 7, 3) := by decide +kernel
theorem dL_law_608 : decode cL_law 608 = .ok (.iconst 1, 1) := by decide +kernel
theorem dL_law_609 : decode cL_law 609 = .ok (.goto 4, 3) := by decide +kernel
theorem dL_law_612 : decode cL_law 612 = .ok (.iconst 0, 1) := by decide +kernel
theorem dL_law_613 : decode cL_law 613 = .ok (.istore 14, 2) := by decide +kernel
theorem dL_law_615 : decode cL_law 615 = .ok (.iload 16, 2) := by decide +kernel
theorem dL_law_617 : decode cL_law 617 = .ok (.ifCond .lt 133, 3) := by decide +kernel
theorem dL_law_620 : decode cL_law 620 = .ok (.aload 9, 2) := by decide +kernel
theorem dL_law_622 : decode cL_law 622 = .ok (.iload 12, 2) := by decide +kernel
theorem dL_law_624 : decode cL_law 624 = .ok (.iload 15, 2) := by decide +kernel
theorem dL_law_626 : decode cL_law 626 = .ok (.castore, 1) := by decide +kernel
theorem dL_law_627 : decode cL_law 627 = .ok (.goto 123, 3) := by decide +kernel
theorem dL_law_630 : decode cL_law 630 = .ok (.iload 11, 2) := by decide +kernel
theorem dL_law_632 : decode cL_law 632 = .ok (.sipush 1024, 3) := by decide +kernel
theorem dL_law_635 : decode cL_law 635 = .ok (.idiv, 1) := by decide +kernel
theorem dL_law_636 : decode cL_law 636 = .ok (.iconst 2, 1) := by decide +kernel
theorem dL_law_637 : decode cL_law 637 = .ok (.irem, 1) := by decide +kernel
theorem dL_law_638 : decode cL_law 638 = .ok (.istore 15, 2) := by decide +kernel
theorem dL_law_640 : decode cL_law 640 = .ok (.aload_n 1, 1) := by decide +kernel
theorem dL_law_641 : decode cL_law 641 = .ok (.iload 15, 2) := by decide +kernel
theorem dL_law_643 : decode cL_law 643 = .ok (.invokestatic 109, 3) := by decide +kernel
theorem dL_law_646 : decode cL_law 646 = .ok (.bipush 102, 2) := by decide +kernel
theorem dL_law_648 : decode cL_law 648 = .ok (.if_icmp .ne 7, 3) := by decide +kernel
theorem dL_law_651 : decode cL_law 651 = .ok (.iconst 1, 1) := by decide +kernel
theorem dL_law_652 : decode cL_law 652 = .ok (.goto 4, 3) := by decide +kernel
theorem dL_law_655 : decode cL_law 655 = .ok (.iconst 0, 1) := by decide +kernel
theorem dL_law_656 : decode cL_law 656 = .ok (.istore 16, 2) := by decide +kernel
theorem dL_law_658 : decode cL_law 658 = .ok (.aload_n 1, 1) := by decide +kernel
theorem dL_law_659 : decode cL_law 659 = .ok (.iload 15, 2) := by decide +kernel
theorem dL_law_661 : decode cL_law 661 = .ok (.invokestatic 154, 3) := by decide +kernel
theorem dL_law_664 : decode cL_law 664 = .ok (.istore 17, 2) := by decide +kernel
theorem dL_law_666 : decode cL_law 666 = .ok (.iload 16, 2) := by decide +kernel
theorem dL_law_668 : decode cL_law 668 = .ok (.ifCond .eq 19, 3) := by decide +kernel
theorem dL_law_671 : decode cL_law 671 = .ok (.iload 17, 2) := by decide +kernel
theorem dL_law_673 : decode cL_law 673 = .ok (.sipush (-1002), 3) := by decide +kernel
theorem dL_law_676 : decode cL_law 676 = .ok (.if_icmp .ne 7, 3) := by decide +kernel
theorem dL_law_679 : decode cL_law 679 = .ok (.iconst 1, 1) := by decide +kernel
theorem dL_law_680 : decode cL_law 680 = .ok (.goto 56, 3) := by decide +kernel
theorem dL_law_683 : decode cL_law 683 = .ok (.iconst 0, 1) := by decide +kernel
theorem dL_law_684 : decode cL_law 684 = .ok (.goto 52, 3) := by decide +kernel
theorem dL_law_687 : decode cL_law 687 = .ok (.iload 17, 2) := by decide +kernel
theorem dL_law_689 : decode cL_law 689 = .ok (.sipush (-1002), 3) := by decide +kernel
theorem dL_law_692 : decode cL_law 692 = .ok (.if_icmp .ne 20, 3) := by decide +kernel
theorem dL_law_695 : decode cL_law 695 = .ok (.aload_n 1, 1) := by decide +kernel
theorem dL_law_696 : decode cL_law 696 = .ok (.iload 15, 2) := by decide +kernel
theorem dL_law_698 : decode cL_law 698 = .ok (.invokestatic 107, 3) := by decide +kernel
theorem dL_law_701 : decode cL_law 701 = .ok (.ifCond .ge 7, 3) := by decide +kernel
theorem dL_law_704 : decode cL_law 704 = .ok (.iconst 1, 1) := by decide +kernel
theorem dL_law_705 : decode cL_law 705 = .ok (.goto 31, 3) := by decide +kernel
theorem dL_law_708 : decode cL_law 708 = .ok (.iconst 0, 1) := by decide +kernel
theorem dL_law_709 : decode cL_law 709 = .ok (.goto 27, 3) := by decide +kernel
theorem dL_law_712 : decode cL_law 712 = .ok (.iload 17, 2) := by decide +kernel
theorem dL_law_714 : decode cL_law 714 = .ok (.aload_n 1, 1) := by decide +kernel
theorem dL_law_715 : decode cL_law 715 = .ok (.iload 15, 2) := by decide +kernel
theorem dL_law_717 : decode cL_law 717 = .ok (.invokestatic 107, 3) := by decide +kernel
theorem dL_law_720 : decode cL_law 720 = .ok (.ifCond .lt 7, 3) := by decide +kernel
theorem dL_law_723 : decode cL_law 723 = .ok (.iconst 1, 1) := by decide +kernel
theorem dL_law_724 : decode cL_law 724 = .ok (.goto 4, 3) := by decide +kernel
theorem dL_law_727 : decode cL_law 727 = .ok (.iconst 0, 1) := by decide +kernel
theorem dL_law_728 : decode cL_law 728 = .ok (.if_icmp .ne 7, 3) := by decide +kernel
theorem dL_law_731 : decode cL_law 731 = .ok (.iconst 1, 1) := by decide +kernel
theorem dL_law_732 : decode cL_law 732 = .ok (.goto 4, 3) := by decide +kernel
theorem dL_law_735 : decode cL_law 735 = .ok (.iconst 0, 1) := by decide +kernel
theorem dL_law_736 : decode cL_law 736 = .ok (.istore 14, 2) := by decide +kernel
theorem dL_law_738 : decode cL_law 738 = .ok (.goto 12, 3) := by decide +kernel
theorem dL_law_741 : decode cL_law 741 = .ok (.aload_n 1, 1) := by decide +kernel
theorem dL_law_742 : decode cL_law 742 = .ok (.iload_n 3, 1) := by decide +kernel
theorem dL_law_743 : decode cL_law 743 = .ok (.aload 9, 2) := by decide +kernel
theorem dL_law_745 : decode cL_law 745 = .ok (.invokestatic 156, 3) := by decide +kernel
theorem dL_law_748 : decode cL_law 748 = .ok (.istore 14, 2) := by decide +kernel
theorem dL_law_750 : decode cL_law 750 = .ok (.iload 14, 2) := by decide +kernel
theorem dL_law_752 : decode cL_law 752 = .ok (.ifCond .eq 32, 3) := by decide +kernel
theorem dL_law_755 : decode cL_law 755 = .ok (.aload_n 1, 1) := by decide +kernel
theorem dL_law_756 : decode cL_law 756 = .ok (.aload 4, 2) := by decide +kernel
theorem dL_law_758 : decode cL_law 758 = .ok (.aload 5, 2) := by decide +kernel
theorem dL_law_760 : decode cL_law 760 = .ok (.iload_n 3, 1) := by decide +kernel
theorem dL_law_761 : decode cL_law 761 = .ok (.aload_n 2, 1) := by decide +kernel
theorem dL_law_762 : decode cL_law 762 = .ok (.invokestatic 160, 3) := by decide +kernel
theorem dL_law_765 : decode cL_law 765 = .ok (.ifCond .eq 19, 3) := by decide +kernel
theorem dL_law_768 : decode cL_law 768 = .ok (.aload_n 1, 1) := by decide +kernel
theorem dL_law_769 : decode cL_law 769 = .ok (.aload 4, 2) := by decide +kernel
theorem dL_law_771 : decode cL_law 771 = .ok (.iload_n 3, 1) := by decide +kernel
theorem dL_law_772 : decode cL_law 772 = .ok (.aload 6, 2) := by decide +kernel
theorem dL_law_774 : decode cL_law 774 = .ok (.aload 7, 2) := by decide +kernel
theorem dL_law_776 : decode cL_law 776 = .ok (.aload 8, 2) := by decide +kernel
theorem dL_law_778 : decode cL_law 778 = .ok (.invokestatic 164, 3) := by decide +kernel
theorem dL_law_781 : decode cL_law 781 = .ok (.ifCond .ne 5, 3) := by decide +kernel
theorem dL_law_784 : decode cL_law 784 = .ok (.iconst 0, 1) := by decide +kernel
theorem dL_law_785 : decode cL_law 785 = .ok (.ireturn, 1) := by decide +kernel
theorem dL_law_786 : decode cL_law 786 = .ok (.iinc 10 1, 3) := by decide +kernel
theorem dL_law_789 : decode cL_law 789 = .ok (.goto (-520), 3) := by decide +kernel
theorem dL_law_792 : decode cL_law 792 = .ok (.iconst 1, 1) := by decide +kernel
theorem dL_law_793 : decode cL_law 793 = .ok (.ireturn, 1) := by decide +kernel
end
section
def TW : List Cond := lw_tbl.filter goodWord
def bw_is : Cond → Bool
  | .castable .. => true
  | .declares .. => true
  | .methodLinkNest .. => true
  | _ => false
def BW : List Cond := lw_tbl.filter bw_is
theorem tw_i {w : Cond} (i : Nat) (h : lw_tbl[i]? = some w) (g : goodWord w = true) : w ∈ TW := List.mem_filter.mpr ⟨List.mem_of_getElem? h, g⟩
theorem bw_i {w : Cond} (i : Nat) (h : lw_tbl[i]? = some w) (g : bw_is w = true) : w ∈ BW := List.mem_filter.mpr ⟨List.mem_of_getElem? h, g⟩
theorem tw_tbl {w : Cond} (h : w ∈ TW) : w ∈ lw_tbl := (List.mem_filter.mp h).1
theorem bw_tbl {w : Cond} (h : w ∈ BW) : w ∈ lw_tbl := (List.mem_filter.mp h).1
theorem tw_good {w : Cond} (h : w ∈ TW) : (w.onTables && w.keeps) = true ∨ ∃ ty, w = .arrayClass ty := good_of_word (List.mem_filter.mp h).2
theorem tw_self : GoodIn TW TW := fun w h => ⟨h, tw_good h⟩
theorem se_Jx4a65c_add_72be8 : Cond.selects RJx4a65c yJx4a65c_add_72be8 yJx4a65c_add_72be8 ∈ TW := tw_i 1 (by decide +kernel) rfl
theorem se_Jx4a65c_grow_d5877 : Cond.selects RJx4a65c yJx4a65c_grow_d5877 yJx4a65c_grow_d5877 ∈ TW := tw_i 2 (by decide +kernel) rfl
theorem se_Jx4a65c_grow_92f84 : Cond.selects RJx4a65c yJx4a65c_grow_92f84 yJx4a65c_grow_92f84 ∈ TW := tw_i 3 (by decide +kernel) rfl
theorem se_X3_beamlineNumbered : Cond.selects RX3 yX3_beamlineNumbered yX3_beamlineNumbered ∈ TW := tw_i 4 (by decide +kernel) rfl
theorem se_X3_allotAtScore : Cond.selects RX3 yX3_allotAtScore yX3_allotAtScore ∈ TW := tw_i 5 (by decide +kernel) rfl
theorem se_X3_proposalNumbered : Cond.selects RX3 yX3_proposalNumbered yX3_proposalNumbered ∈ TW := tw_i 6 (by decide +kernel) rfl
theorem se_X3_countCold : Cond.selects RX3 yX3_countCold yX3_countCold ∈ TW := tw_i 7 (by decide +kernel) rfl
theorem se_X3_reasonAt : Cond.selects RX3 yX3_reasonAt yX3_reasonAt ∈ TW := tw_i 8 (by decide +kernel) rfl
theorem se_X3_passOne : Cond.selects RX3 yX3_passOne yX3_passOne ∈ TW := tw_i 9 (by decide +kernel) rfl
theorem ini_L : Cond.initialized RL ∈ TW := tw_i 10 (by decide +kernel) rfl
theorem ini_X3 : Cond.initialized RX3 ∈ TW := tw_i 11 (by decide +kernel) rfl
theorem ini_Jxa1e45 : Cond.initialized RJxa1e45 ∈ TW := tw_i 12 (by decide +kernel) rfl
theorem ini_Jxc12de : Cond.initialized RJxc12de ∈ TW := tw_i 13 (by decide +kernel) rfl
theorem ini_Jx4a65c : Cond.initialized RJx4a65c ∈ TW := tw_i 14 (by decide +kernel) rfl
theorem ini_Throwable : Cond.initialized "java/lang/Throwable" ∈ TW := tw_i 15 (by decide +kernel) rfl
theorem ini_Exception : Cond.initialized "java/lang/Exception" ∈ TW := tw_i 16 (by decide +kernel) rfl
theorem ini_RuntimeException : Cond.initialized "java/lang/RuntimeException" ∈ TW := tw_i 17 (by decide +kernel) rfl
theorem ini_IllegalArgumentException : Cond.initialized "java/lang/IllegalArgumentException" ∈ TW := tw_i 18 (by decide +kernel) rfl
theorem ini_IllegalStateException : Cond.initialized "java/lang/IllegalStateException" ∈ TW := tw_i 19 (by decide +kernel) rfl
theorem ini_X0 : Cond.initialized RX0 ∈ TW := tw_i 20 (by decide +kernel) rfl
theorem ini_X1 : Cond.initialized RX1 ∈ TW := tw_i 21 (by decide +kernel) rfl
theorem ini_J8 : Cond.initialized RJ8 ∈ TW := tw_i 22 (by decide +kernel) rfl
theorem ini_J9 : Cond.initialized RJ9 ∈ TW := tw_i 23 (by decide +kernel) rfl
theorem ini_J7 : Cond.initialized RJ7 ∈ TW := tw_i 24 (by decide +kernel) rfl
theorem ini_J10 : Cond.initialized RJ10 ∈ TW := tw_i 25 (by decide +kernel) rfl
theorem ini_IndexOutOfBoundsException : Cond.initialized "java/lang/IndexOutOfBoundsException" ∈ TW := tw_i 26 (by decide +kernel) rfl
theorem ini_Jx00060 : Cond.initialized RJx00060 ∈ TW := tw_i 27 (by decide +kernel) rfl
theorem ini_J0 : Cond.initialized RJ0 ∈ TW := tw_i 28 (by decide +kernel) rfl
theorem ini_J15 : Cond.initialized RJ15 ∈ TW := tw_i 29 (by decide +kernel) rfl
theorem ini_J3 : Cond.initialized RJ3 ∈ TW := tw_i 30 (by decide +kernel) rfl
theorem ini_X2 : Cond.initialized RX2 ∈ TW := tw_i 31 (by decide +kernel) rfl
theorem ini_NoSuchElementException : Cond.initialized "java/util/NoSuchElementException" ∈ TW := tw_i 32 (by decide +kernel) rfl
theorem ini_J1 : Cond.initialized RJ1 ∈ TW := tw_i 33 (by decide +kernel) rfl
theorem ini_J2 : Cond.initialized RJ2 ∈ TW := tw_i 34 (by decide +kernel) rfl
theorem ini_UnsupportedOperationException : Cond.initialized "java/lang/UnsupportedOperationException" ∈ TW := tw_i 35 (by decide +kernel) rfl
theorem cl_L_15 : Cond.classLink RL 15 "BeamOffice" ∈ TW := tw_i 36 (by decide +kernel) rfl
theorem ins_X3 : Cond.instantiable RX3 5 ∈ TW := tw_i 37 (by decide +kernel) rfl
theorem ml_L_123 : Cond.methodLink RL 123 yX3_init ∈ TW := tw_i 38 (by decide +kernel) rfl
theorem im_X3_init : Cond.instanceMethod yX3_init ∈ TW := tw_i 39 (by decide +kernel) rfl
theorem cd_X3_init : Cond.code yX3_init cX3_init 1 none ∈ TW := tw_i 40 (by decide +kernel) rfl
theorem ml_X3_1 : Cond.methodLink RX3 1 objectInit ∈ TW := tw_i 41 (by decide +kernel) rfl
theorem im_objectInit : Cond.instanceMethod objectInit ∈ TW := tw_i 42 (by decide +kernel) rfl
theorem cd_objectInit : Cond.code objectInit ⟨#[0xb1]⟩ 1 none ∈ TW := tw_i 43 (by decide +kernel) rfl
theorem cl_X3_7 : Cond.classLink RX3 7 "java/util/ArrayList" ∈ TW := tw_i 44 (by decide +kernel) rfl
theorem ins_Jx4a65c : Cond.instantiable RJx4a65c 3 ∈ TW := tw_i 45 (by decide +kernel) rfl
theorem ml_X3_9 : Cond.methodLink RX3 9 yJx4a65c_init_da8c8 ∈ TW := tw_i 46 (by decide +kernel) rfl
theorem im_Jx4a65c_init_da8c8 : Cond.instanceMethod yJx4a65c_init_da8c8 ∈ TW := tw_i 47 (by decide +kernel) rfl
theorem cd_Jx4a65c_init_da8c8 : Cond.code yJx4a65c_init_da8c8 cJx4a65c_init_da8c8 1 none ∈ TW := tw_i 48 (by decide +kernel) rfl
theorem ml_Jx4a65c_1 : Cond.methodLink RJx4a65c 1 yJxc12de_init_da8c8 ∈ TW := tw_i 49 (by decide +kernel) rfl
theorem im_Jxc12de_init_da8c8 : Cond.instanceMethod yJxc12de_init_da8c8 ∈ TW := tw_i 50 (by decide +kernel) rfl
theorem cd_Jxc12de_init_da8c8 : Cond.code yJxc12de_init_da8c8 cJxc12de_init_da8c8 1 none ∈ TW := tw_i 51 (by decide +kernel) rfl
theorem ml_Jxc12de_1 : Cond.methodLink RJxc12de 1 yJxa1e45_init_da8c8 ∈ TW := tw_i 52 (by decide +kernel) rfl
theorem im_Jxa1e45_init_da8c8 : Cond.instanceMethod yJxa1e45_init_da8c8 ∈ TW := tw_i 53 (by decide +kernel) rfl
theorem cd_Jxa1e45_init_da8c8 : Cond.code yJxa1e45_init_da8c8 cJxa1e45_init_da8c8 1 none ∈ TW := tw_i 54 (by decide +kernel) rfl
theorem ml_Jxa1e45_1 : Cond.methodLink RJxa1e45 1 objectInit ∈ TW := tw_i 55 (by decide +kernel) rfl
theorem fl_Jx4a65c_39 : Cond.fieldLink RJx4a65c 39 "java/util/ArrayList" "DEFAULTCAPACITY_EMPTY_ELEMENTDATA" "[Ljava/lang/Object;" ∈ TW := tw_i 56 (by decide +kernel) rfl
theorem fl_Jx4a65c_9 : Cond.fieldLink RJx4a65c 9 "java/util/ArrayList" "elementData" "[Ljava/lang/Object;" ∈ TW := tw_i 58 (by decide +kernel) rfl
theorem fl_Jx4a65c_48 : Cond.fieldLink RJx4a65c 48 "java/util/ArrayList" "size" "I" ∈ TW := tw_i 59 (by decide +kernel) rfl
theorem fl_Jxc12de_7 : Cond.fieldLink RJxc12de 7 "java/util/AbstractList" "modCount" "I" ∈ TW := tw_i 60 (by decide +kernel) rfl
theorem fl_Jx4a65c_63 : Cond.fieldLink RJx4a65c 63 "java/util/ArrayList" "modCount" "I" ∈ TW := tw_i 61 (by decide +kernel) rfl
theorem sf_modCount : Cond.sameField "java/util/ArrayList" "java/util/AbstractList" "modCount" "I" ∈ TW := tw_i 62 (by decide +kernel) rfl
theorem fl_X3_10 : Cond.fieldLink RX3 10 "BeamOffice" "beamlines" "Ljava/util/ArrayList;" ∈ TW := tw_i 70 (by decide +kernel) rfl
theorem fl_X3_16 : Cond.fieldLink RX3 16 "BeamOffice" "proposals" "Ljava/util/ArrayList;" ∈ TW := tw_i 71 (by decide +kernel) rfl
theorem fl_X3_19 : Cond.fieldLink RX3 19 "BeamOffice" "trained" "[Z" ∈ TW := tw_i 72 (by decide +kernel) rfl
theorem fl_X3_23 : Cond.fieldLink RX3 23 "BeamOffice" "there" "[Z" ∈ TW := tw_i 73 (by decide +kernel) rfl
theorem fl_X3_26 : Cond.fieldLink RX3 26 "BeamOffice" "time" "I" ∈ TW := tw_i 74 (by decide +kernel) rfl
theorem ac_boolean : Cond.arrayClass .boolean ∈ TW := tw_i 86 (by decide +kernel) rfl
theorem ml_L_8 : Cond.methodLink RL 8 yL_cell ∈ TW := tw_i 87 (by decide +kernel) rfl
theorem st_L_cell : Cond.static yL_cell ∈ TW := tw_i 88 (by decide +kernel) rfl
theorem cd_L_cell : Cond.code yL_cell cL_cell 2 (some .int) ∈ TW := tw_i 89 (by decide +kernel) rfl
theorem ml_L_124 : Cond.methodLink RL 124 yL_pick ∈ TW := tw_i 91 (by decide +kernel) rfl
theorem st_L_pick : Cond.static yL_pick ∈ TW := tw_i 92 (by decide +kernel) rfl
theorem cd_L_pick : Cond.code yL_pick cL_pick 3 (some .int) ∈ TW := tw_i 93 (by decide +kernel) rfl
theorem ml_L_128 : Cond.methodLink RL 128 yL_addBeamline ∈ TW := tw_i 94 (by decide +kernel) rfl
theorem st_L_addBeamline : Cond.static yL_addBeamline ∈ TW := tw_i 95 (by decide +kernel) rfl
theorem cd_L_addBeamline : Cond.codeWith yL_addBeamline cL_addBeamline 4 (some .int) [(0, 6, 7, 20), (0, 6, 12, 22)] ∈ TW := tw_i 96 (by decide +kernel) rfl
theorem cl_L_20 : Cond.classLink RL 20 "java/lang/IllegalArgumentException" ∈ TW := tw_i 97 (by decide +kernel) rfl
theorem cl_L_22 : Cond.classLink RL 22 "java/lang/IllegalStateException" ∈ TW := tw_i 98 (by decide +kernel) rfl
theorem ml_L_14 : Cond.methodLink RL 14 yX3_addBeamline ∈ TW := tw_i 99 (by decide +kernel) rfl
theorem im_X3_addBeamline : Cond.instanceMethod yX3_addBeamline ∈ TW := tw_i 100 (by decide +kernel) rfl
theorem se_X3_addBeamline : Cond.selects RX3 yX3_addBeamline yX3_addBeamline ∈ TW := tw_i 101 (by decide +kernel) rfl
theorem cd_X3_addBeamline : Cond.code yX3_addBeamline cX3_addBeamline 3 (some .int) ∈ TW := tw_i 102 (by decide +kernel) rfl
theorem ml_X3_30 : Cond.methodLink RX3 30 yX3_isWithin ∈ TW := tw_i 103 (by decide +kernel) rfl
theorem st_X3_isWithin : Cond.static yX3_isWithin ∈ TW := tw_i 104 (by decide +kernel) rfl
theorem cd_X3_isWithin : Cond.code yX3_isWithin cX3_isWithin 3 (some .boolean) ∈ TW := tw_i 105 (by decide +kernel) rfl
theorem cl_X3_34 : Cond.classLink RX3 34 "java/lang/IllegalArgumentException" ∈ TW := tw_i 106 (by decide +kernel) rfl
theorem ca_IllegalArgumentException_IllegalArgumentException : Cond.castable "java/lang/IllegalArgumentException" "java/lang/IllegalArgumentException" ∈ BW := bw_i 108 (by decide +kernel) rfl
theorem ac_byte : Cond.arrayClass .byte ∈ TW := tw_i 176 (by decide +kernel) rfl
theorem ml_X3_43 : Cond.methodLink RX3 43 yJx4a65c_size_8abf5 ∈ TW := tw_i 178 (by decide +kernel) rfl
theorem im_Jx4a65c_size_8abf5 : Cond.instanceMethod yJx4a65c_size_8abf5 ∈ TW := tw_i 179 (by decide +kernel) rfl
theorem se_Jx4a65c_size_8abf5 : Cond.selects RJx4a65c yJx4a65c_size_8abf5 yJx4a65c_size_8abf5 ∈ TW := tw_i 180 (by decide +kernel) rfl
theorem cd_Jx4a65c_size_8abf5 : Cond.code yJx4a65c_size_8abf5 cJx4a65c_size_8abf5 1 (some .int) ∈ TW := tw_i 181 (by decide +kernel) rfl
theorem cl_X3_47 : Cond.classLink RX3 47 "java/lang/IllegalStateException" ∈ TW := tw_i 182 (by decide +kernel) rfl
theorem ca_IllegalStateException_IllegalStateException : Cond.castable "java/lang/IllegalStateException" "java/lang/IllegalStateException" ∈ BW := bw_i 184 (by decide +kernel) rfl
theorem cl_X3_52 : Cond.classLink RX3 52 "BeamOffice$Beamline" ∈ TW := tw_i 198 (by decide +kernel) rfl
theorem ins_X0 : Cond.instantiable RX0 11 ∈ TW := tw_i 199 (by decide +kernel) rfl
theorem ml_X3_54 : Cond.methodLink RX3 54 yX0_init ∈ TW := tw_i 200 (by decide +kernel) rfl
theorem im_X0_init : Cond.instanceMethod yX0_init ∈ TW := tw_i 201 (by decide +kernel) rfl
theorem cd_X0_init : Cond.code yX0_init cX0_init 3 none ∈ TW := tw_i 202 (by decide +kernel) rfl
theorem ml_X0_3 : Cond.methodLink RX0 3 objectInit ∈ TW := tw_i 203 (by decide +kernel) rfl
theorem cl_X0_9 : Cond.classLink RX0 9 "java/util/ArrayList" ∈ TW := tw_i 204 (by decide +kernel) rfl
theorem ml_X0_11 : Cond.methodLink RX0 11 yJx4a65c_init_da8c8 ∈ TW := tw_i 205 (by decide +kernel) rfl
theorem cl_X0_18 : Cond.classLink RX0 18 "BeamOffice$Calendar" ∈ TW := tw_i 206 (by decide +kernel) rfl
theorem ins_X1 : Cond.instantiable RX1 3 ∈ TW := tw_i 207 (by decide +kernel) rfl
theorem mn_X0_20 : Cond.methodLinkNest RX0 20 yX1_init "BeamOffice" ∈ BW := bw_i 208 (by decide +kernel) rfl
theorem im_X1_init : Cond.instanceMethod yX1_init ∈ TW := tw_i 209 (by decide +kernel) rfl
theorem cd_X1_init : Cond.code yX1_init cX1_init 1 none ∈ TW := tw_i 210 (by decide +kernel) rfl
theorem ml_X1_3 : Cond.methodLink RX1 3 objectInit ∈ TW := tw_i 211 (by decide +kernel) rfl
theorem fl_X1_9 : Cond.fieldLink RX1 9 "BeamOffice$Calendar" "left" "[I" ∈ TW := tw_i 212 (by decide +kernel) rfl
theorem fl_X1_15 : Cond.fieldLink RX1 15 "BeamOffice$Calendar" "places" "I" ∈ TW := tw_i 213 (by decide +kernel) rfl
theorem fl_X1_19 : Cond.fieldLink RX1 19 "BeamOffice$Calendar" "reserve" "I" ∈ TW := tw_i 214 (by decide +kernel) rfl
theorem fl_X3_104 : Cond.fieldLink RX3 104 "BeamOffice$Calendar" "reserve" "I" ∈ TW := tw_i 215 (by decide +kernel) rfl
theorem ac_int : Cond.arrayClass .int ∈ TW := tw_i 223 (by decide +kernel) rfl
theorem ml_X0_55 : Cond.methodLink RX0 55 yX1_begin ∈ TW := tw_i 224 (by decide +kernel) rfl
theorem im_X1_begin : Cond.instanceMethod yX1_begin ∈ TW := tw_i 225 (by decide +kernel) rfl
theorem se_X1_begin : Cond.selects RX1 yX1_begin yX1_begin ∈ TW := tw_i 226 (by decide +kernel) rfl
theorem cd_X1_begin : Cond.code yX1_begin cX1_begin 2 none ∈ TW := tw_i 227 (by decide +kernel) rfl
theorem fl_X0_49 : Cond.fieldLink RX0 49 "BeamOffice$Beamline" "shifts" "I" ∈ TW := tw_i 228 (by decide +kernel) rfl
theorem fl_X0_52 : Cond.fieldLink RX0 52 "BeamOffice$Beamline" "room" "I" ∈ TW := tw_i 229 (by decide +kernel) rfl
theorem fl_X3_259 : Cond.fieldLink RX3 259 "BeamOffice$Beamline" "room" "I" ∈ TW := tw_i 230 (by decide +kernel) rfl
theorem fl_X0_12 : Cond.fieldLink RX0 12 "BeamOffice$Beamline" "queue" "Ljava/util/ArrayList;" ∈ TW := tw_i 231 (by decide +kernel) rfl
theorem fl_X3_95 : Cond.fieldLink RX3 95 "BeamOffice$Beamline" "queue" "Ljava/util/ArrayList;" ∈ TW := tw_i 232 (by decide +kernel) rfl
theorem fl_X0_21 : Cond.fieldLink RX0 21 "BeamOffice$Beamline" "kept" "LBeamOffice$Calendar;" ∈ TW := tw_i 233 (by decide +kernel) rfl
theorem fl_X3_100 : Cond.fieldLink RX3 100 "BeamOffice$Beamline" "kept" "LBeamOffice$Calendar;" ∈ TW := tw_i 234 (by decide +kernel) rfl
theorem fl_X0_25 : Cond.fieldLink RX0 25 "BeamOffice$Beamline" "anew" "LBeamOffice$Calendar;" ∈ TW := tw_i 235 (by decide +kernel) rfl
theorem fl_X3_190 : Cond.fieldLink RX3 190 "BeamOffice$Beamline" "anew" "LBeamOffice$Calendar;" ∈ TW := tw_i 236 (by decide +kernel) rfl
theorem fl_X0_28 : Cond.fieldLink RX0 28 "BeamOffice$Beamline" "kinds" "[C" ∈ TW := tw_i 237 (by decide +kernel) rfl
theorem fl_X0_32 : Cond.fieldLink RX0 32 "BeamOffice$Beamline" "passed" "I" ∈ TW := tw_i 238 (by decide +kernel) rfl
theorem fl_X0_36 : Cond.fieldLink RX0 36 "BeamOffice$Beamline" "rate" "I" ∈ TW := tw_i 239 (by decide +kernel) rfl
theorem fl_X3_67 : Cond.fieldLink RX3 67 "BeamOffice$Beamline" "rate" "I" ∈ TW := tw_i 240 (by decide +kernel) rfl
theorem fl_X0_39 : Cond.fieldLink RX0 39 "BeamOffice$Beamline" "used" "I" ∈ TW := tw_i 241 (by decide +kernel) rfl
theorem fl_X3_176 : Cond.fieldLink RX3 176 "BeamOffice$Beamline" "used" "I" ∈ TW := tw_i 242 (by decide +kernel) rfl
theorem fl_X0_42 : Cond.fieldLink RX0 42 "BeamOffice$Beamline" "met" "Z" ∈ TW := tw_i 243 (by decide +kernel) rfl
theorem fl_X3_78 : Cond.fieldLink RX3 78 "BeamOffice$Beamline" "met" "Z" ∈ TW := tw_i 244 (by decide +kernel) rfl
theorem fl_X0_46 : Cond.fieldLink RX0 46 "BeamOffice$Beamline" "fault" "Z" ∈ TW := tw_i 245 (by decide +kernel) rfl
theorem fl_X3_164 : Cond.fieldLink RX3 164 "BeamOffice$Beamline" "fault" "Z" ∈ TW := tw_i 246 (by decide +kernel) rfl
theorem ac_char : Cond.arrayClass .char ∈ TW := tw_i 270 (by decide +kernel) rfl
theorem ml_X3_57 : Cond.methodLink RX3 57 yJx4a65c_add_9ea2d ∈ TW := tw_i 271 (by decide +kernel) rfl
theorem im_Jx4a65c_add_9ea2d : Cond.instanceMethod yJx4a65c_add_9ea2d ∈ TW := tw_i 272 (by decide +kernel) rfl
theorem se_Jx4a65c_add_9ea2d : Cond.selects RJx4a65c yJx4a65c_add_9ea2d yJx4a65c_add_9ea2d ∈ TW := tw_i 273 (by decide +kernel) rfl
theorem cd_Jx4a65c_add_9ea2d : Cond.code yJx4a65c_add_9ea2d cJx4a65c_add_9ea2d 2 (some .boolean) ∈ TW := tw_i 274 (by decide +kernel) rfl
theorem ml_Jx4a65c_131 : Cond.methodLink RJx4a65c 131 yJx4a65c_add_72be8 ∈ TW := tw_i 275 (by decide +kernel) rfl
theorem im_Jx4a65c_add_72be8 : Cond.instanceMethod yJx4a65c_add_72be8 ∈ TW := tw_i 277 (by decide +kernel) rfl
theorem cd_Jx4a65c_add_72be8 : Cond.code yJx4a65c_add_72be8 cJx4a65c_add_72be8 4 none ∈ TW := tw_i 278 (by decide +kernel) rfl
theorem ml_Jx4a65c_129 : Cond.methodLink RJx4a65c 129 yJx4a65c_grow_d5877 ∈ TW := tw_i 279 (by decide +kernel) rfl
theorem im_Jx4a65c_grow_d5877 : Cond.instanceMethod yJx4a65c_grow_d5877 ∈ TW := tw_i 281 (by decide +kernel) rfl
theorem cd_Jx4a65c_grow_d5877 : Cond.code yJx4a65c_grow_d5877 cJx4a65c_grow_d5877 1 (some (.array (.object "java/lang/Object"))) ∈ TW := tw_i 282 (by decide +kernel) rfl
theorem ml_Jx4a65c_69 : Cond.methodLink RJx4a65c 69 yJx4a65c_grow_92f84 ∈ TW := tw_i 283 (by decide +kernel) rfl
theorem im_Jx4a65c_grow_92f84 : Cond.instanceMethod yJx4a65c_grow_92f84 ∈ TW := tw_i 285 (by decide +kernel) rfl
theorem cd_Jx4a65c_grow_92f84 : Cond.code yJx4a65c_grow_92f84 cJx4a65c_grow_92f84 4 (some (.array (.object "java/lang/Object"))) ∈ TW := tw_i 286 (by decide +kernel) rfl
theorem ml_Jx4a65c_73 : Cond.methodLink RJx4a65c 73 yJ8_newLength_cabcc ∈ TW := tw_i 287 (by decide +kernel) rfl
theorem st_J8_newLength_cabcc : Cond.static yJ8_newLength_cabcc ∈ TW := tw_i 288 (by decide +kernel) rfl
theorem cd_J8_newLength_cabcc : Cond.code yJ8_newLength_cabcc cJ8_newLength_cabcc 4 (some .int) ∈ TW := tw_i 289 (by decide +kernel) rfl
theorem ml_J8_194 : Cond.methodLink RJ8 194 yJ9_max_7cf53 ∈ TW := tw_i 290 (by decide +kernel) rfl
theorem st_J9_max_7cf53 : Cond.static yJ9_max_7cf53 ∈ TW := tw_i 291 (by decide +kernel) rfl
theorem cd_J9_max_7cf53 : Cond.code yJ9_max_7cf53 cJ9_max_7cf53 2 (some .int) ∈ TW := tw_i 292 (by decide +kernel) rfl
theorem ml_J8_201 : Cond.methodLink RJ8 201 yJ8_hugeLength_7cf53 ∈ TW := tw_i 294 (by decide +kernel) rfl
theorem st_J8_hugeLength_7cf53 : Cond.static yJ8_hugeLength_7cf53 ∈ TW := tw_i 295 (by decide +kernel) rfl
theorem cd_J8_hugeLength_7cf53 : Cond.code yJ8_hugeLength_7cf53 cJ8_hugeLength_7cf53 3 (some .int) ∈ TW := tw_i 296 (by decide +kernel) rfl
theorem ml_Jx4a65c_66 : Cond.methodLink RJx4a65c 66 yJ7_copyOf_1904c ∈ TW := tw_i 297 (by decide +kernel) rfl
theorem st_J7_copyOf_1904c : Cond.static yJ7_copyOf_1904c ∈ TW := tw_i 298 (by decide +kernel) rfl
theorem cd_J7_copyOf_1904c : Cond.code yJ7_copyOf_1904c cJ7_copyOf_1904c 2 (some (.array (.object "java/lang/Object"))) ∈ TW := tw_i 299 (by decide +kernel) rfl
theorem ml_J7_300 : Cond.methodLink RJ7 300 yJ7_copyOf_6403c ∈ TW := tw_i 315 (by decide +kernel) rfl
theorem st_J7_copyOf_6403c : Cond.static yJ7_copyOf_6403c ∈ TW := tw_i 316 (by decide +kernel) rfl
theorem cd_J7_copyOf_6403c : Cond.code yJ7_copyOf_6403c cJ7_copyOf_6403c 4 (some (.array (.object "java/lang/Object"))) ∈ TW := tw_i 317 (by decide +kernel) rfl
theorem cl_J7_110 : Cond.classLink RJ7 110 "[Ljava/lang/Object;" ∈ TW := tw_i 318 (by decide +kernel) rfl
theorem cl_J7_2 : Cond.classLink RJ7 2 "java/lang/Object" ∈ TW := tw_i 320 (by decide +kernel) rfl
theorem ml_J7_304 : Cond.methodLink RJ7 304 yJ9_min_7cf53 ∈ TW := tw_i 321 (by decide +kernel) rfl
theorem st_J9_min_7cf53 : Cond.static yJ9_min_7cf53 ∈ TW := tw_i 322 (by decide +kernel) rfl
theorem cd_J9_min_7cf53 : Cond.code yJ9_min_7cf53 cJ9_min_7cf53 2 (some .int) ∈ TW := tw_i 323 (by decide +kernel) rfl
theorem ml_Jx4a65c_79 : Cond.methodLink RJx4a65c 79 yJ9_max_7cf53 ∈ TW := tw_i 327 (by decide +kernel) rfl
theorem cl_Jx4a65c_7 : Cond.classLink RJx4a65c 7 "java/lang/Object" ∈ TW := tw_i 328 (by decide +kernel) rfl
theorem ml_L_131 : Cond.methodLink RL 131 yL_setRate ∈ TW := tw_i 329 (by decide +kernel) rfl
theorem st_L_setRate : Cond.static yL_setRate ∈ TW := tw_i 330 (by decide +kernel) rfl
theorem cd_L_setRate : Cond.codeWith yL_setRate cL_setRate 4 (some .int) [(0, 6, 7, 27), (0, 6, 12, 20)] ∈ TW := tw_i 331 (by decide +kernel) rfl
theorem cl_L_27 : Cond.classLink RL 27 "java/lang/IndexOutOfBoundsException" ∈ TW := tw_i 332 (by decide +kernel) rfl
theorem ins_Jx00060 : Cond.instantiable RJx00060 6 ∈ TW := tw_i 333 (by decide +kernel) rfl
theorem im_Jx00060_init_a7421 : Cond.instanceMethod yJx00060_init_a7421 ∈ TW := tw_i 334 (by decide +kernel) rfl
theorem cd_Jx00060_init_a7421 : Cond.code yJx00060_init_a7421 cJx00060_init_a7421 2 none ∈ TW := tw_i 335 (by decide +kernel) rfl
theorem ca_ArrayIndexOutOfBoundsException_ArrayIndexOutOfBoundsException : Cond.castable "java/lang/ArrayIndexOutOfBoundsException" "java/lang/ArrayIndexOutOfBoundsException" ∈ BW := bw_i 347 (by decide +kernel) rfl
theorem ins_J0 : Cond.instantiable RJ0 4 ∈ TW := tw_i 351 (by decide +kernel) rfl
theorem ml_L_24 : Cond.methodLink RL 24 yX3_setRate ∈ TW := tw_i 356 (by decide +kernel) rfl
theorem im_X3_setRate : Cond.instanceMethod yX3_setRate ∈ TW := tw_i 357 (by decide +kernel) rfl
theorem se_X3_setRate : Cond.selects RX3 yX3_setRate yX3_setRate ∈ TW := tw_i 358 (by decide +kernel) rfl
theorem cd_X3_setRate : Cond.code yX3_setRate cX3_setRate 5 (some .int) ∈ TW := tw_i 359 (by decide +kernel) rfl
theorem ml_X3_61 : Cond.methodLink RX3 61 yX3_beamlineNumbered ∈ TW := tw_i 360 (by decide +kernel) rfl
theorem im_X3_beamlineNumbered : Cond.instanceMethod yX3_beamlineNumbered ∈ TW := tw_i 362 (by decide +kernel) rfl
theorem cd_X3_beamlineNumbered : Cond.code yX3_beamlineNumbered cX3_beamlineNumbered 2 (some (.object "BeamOffice$Beamline")) ∈ TW := tw_i 363 (by decide +kernel) rfl
theorem cl_X3_109 : Cond.classLink RX3 109 "java/lang/IndexOutOfBoundsException" ∈ TW := tw_i 364 (by decide +kernel) rfl
theorem ca_IndexOutOfBoundsException_IndexOutOfBoundsException : Cond.castable "java/lang/IndexOutOfBoundsException" "java/lang/IndexOutOfBoundsException" ∈ BW := bw_i 366 (by decide +kernel) rfl
theorem ml_X3_224 : Cond.methodLink RX3 224 yJx4a65c_get_915e3 ∈ TW := tw_i 377 (by decide +kernel) rfl
theorem im_Jx4a65c_get_915e3 : Cond.instanceMethod yJx4a65c_get_915e3 ∈ TW := tw_i 378 (by decide +kernel) rfl
theorem se_Jx4a65c_get_915e3 : Cond.selects RJx4a65c yJx4a65c_get_915e3 yJx4a65c_get_915e3 ∈ TW := tw_i 379 (by decide +kernel) rfl
theorem cd_Jx4a65c_get_915e3 : Cond.code yJx4a65c_get_915e3 cJx4a65c_get_915e3 2 (some (.object "java/lang/Object")) ∈ TW := tw_i 380 (by decide +kernel) rfl
theorem ml_Jx4a65c_118 : Cond.methodLink RJx4a65c 118 yJ15_checkIndex_7cf53 ∈ TW := tw_i 381 (by decide +kernel) rfl
theorem st_J15_checkIndex_7cf53 : Cond.static yJ15_checkIndex_7cf53 ∈ TW := tw_i 382 (by decide +kernel) rfl
theorem cd_J15_checkIndex_7cf53 : Cond.code yJ15_checkIndex_7cf53 cJ15_checkIndex_7cf53 2 (some .int) ∈ TW := tw_i 383 (by decide +kernel) rfl
theorem ml_J15_105 : Cond.methodLink RJ15 105 yJ3_checkIndex_8e157 ∈ TW := tw_i 384 (by decide +kernel) rfl
theorem st_J3_checkIndex_8e157 : Cond.static yJ3_checkIndex_8e157 ∈ TW := tw_i 385 (by decide +kernel) rfl
theorem cd_J3_checkIndex_8e157 : Cond.code yJ3_checkIndex_8e157 cJ3_checkIndex_8e157 3 (some .int) ∈ TW := tw_i 386 (by decide +kernel) rfl
theorem ml_Jx4a65c_123 : Cond.methodLink RJx4a65c 123 yJx4a65c_elementData_915e3 ∈ TW := tw_i 387 (by decide +kernel) rfl
theorem im_Jx4a65c_elementData_915e3 : Cond.instanceMethod yJx4a65c_elementData_915e3 ∈ TW := tw_i 388 (by decide +kernel) rfl
theorem se_Jx4a65c_elementData_915e3 : Cond.selects RJx4a65c yJx4a65c_elementData_915e3 yJx4a65c_elementData_915e3 ∈ TW := tw_i 389 (by decide +kernel) rfl
theorem cd_Jx4a65c_elementData_915e3 : Cond.code yJx4a65c_elementData_915e3 cJx4a65c_elementData_915e3 2 (some (.object "java/lang/Object")) ∈ TW := tw_i 390 (by decide +kernel) rfl
theorem ml_L_133 : Cond.methodLink RL 133 yL_propose ∈ TW := tw_i 392 (by decide +kernel) rfl
theorem st_L_propose : Cond.static yL_propose ∈ TW := tw_i 393 (by decide +kernel) rfl
theorem cd_L_propose : Cond.codeWith yL_propose cL_propose 7 (some .int) [(0, 11, 12, 27), (0, 11, 18, 20), (0, 11, 24, 22)] ∈ TW := tw_i 394 (by decide +kernel) rfl
theorem ml_L_29 : Cond.methodLink RL 29 yX3_propose ∈ TW := tw_i 395 (by decide +kernel) rfl
theorem im_X3_propose : Cond.instanceMethod yX3_propose ∈ TW := tw_i 396 (by decide +kernel) rfl
theorem se_X3_propose : Cond.selects RX3 yX3_propose yX3_propose ∈ TW := tw_i 397 (by decide +kernel) rfl
theorem cd_X3_propose : Cond.code yX3_propose cX3_propose 8 (some .int) ∈ TW := tw_i 398 (by decide +kernel) rfl
theorem cl_X3_86 : Cond.classLink RX3 86 "BeamOffice$Proposal" ∈ TW := tw_i 405 (by decide +kernel) rfl
theorem ins_X2 : Cond.instantiable RX2 13 ∈ TW := tw_i 406 (by decide +kernel) rfl
theorem ml_X3_88 : Cond.methodLink RX3 88 yX2_init ∈ TW := tw_i 407 (by decide +kernel) rfl
theorem im_X2_init : Cond.instanceMethod yX2_init ∈ TW := tw_i 408 (by decide +kernel) rfl
theorem cd_X2_init : Cond.code yX2_init cX2_init 7 none ∈ TW := tw_i 409 (by decide +kernel) rfl
theorem ml_X2_3 : Cond.methodLink RX2 3 objectInit ∈ TW := tw_i 410 (by decide +kernel) rfl
theorem fl_X2_34 : Cond.fieldLink RX2 34 "BeamOffice$Proposal" "number" "I" ∈ TW := tw_i 411 (by decide +kernel) rfl
theorem fl_X3_157 : Cond.fieldLink RX3 157 "BeamOffice$Proposal" "number" "I" ∈ TW := tw_i 412 (by decide +kernel) rfl
theorem fl_X2_37 : Cond.fieldLink RX2 37 "BeamOffice$Proposal" "line" "LBeamOffice$Beamline;" ∈ TW := tw_i 413 (by decide +kernel) rfl
theorem fl_X3_183 : Cond.fieldLink RX3 183 "BeamOffice$Proposal" "line" "LBeamOffice$Beamline;" ∈ TW := tw_i 414 (by decide +kernel) rfl
theorem fl_X2_41 : Cond.fieldLink RX2 41 "BeamOffice$Proposal" "user" "I" ∈ TW := tw_i 415 (by decide +kernel) rfl
theorem fl_X3_246 : Cond.fieldLink RX3 246 "BeamOffice$Proposal" "user" "I" ∈ TW := tw_i 416 (by decide +kernel) rfl
theorem fl_X2_44 : Cond.fieldLink RX2 44 "BeamOffice$Proposal" "score" "I" ∈ TW := tw_i 417 (by decide +kernel) rfl
theorem fl_X3_233 : Cond.fieldLink RX3 233 "BeamOffice$Proposal" "score" "I" ∈ TW := tw_i 418 (by decide +kernel) rfl
theorem fl_X2_47 : Cond.fieldLink RX2 47 "BeamOffice$Proposal" "wanted" "I" ∈ TW := tw_i 419 (by decide +kernel) rfl
theorem fl_X0_59 : Cond.fieldLink RX0 59 "BeamOffice$Proposal" "wanted" "I" ∈ TW := tw_i 420 (by decide +kernel) rfl
theorem fl_X2_50 : Cond.fieldLink RX2 50 "BeamOffice$Proposal" "data" "I" ∈ TW := tw_i 421 (by decide +kernel) rfl
theorem fl_X0_98 : Cond.fieldLink RX0 98 "BeamOffice$Proposal" "data" "I" ∈ TW := tw_i 422 (by decide +kernel) rfl
theorem fl_X3_256 : Cond.fieldLink RX3 256 "BeamOffice$Proposal" "data" "I" ∈ TW := tw_i 423 (by decide +kernel) rfl
theorem fl_X2_9 : Cond.fieldLink RX2 9 "BeamOffice$Proposal" "queuePlace" "I" ∈ TW := tw_i 424 (by decide +kernel) rfl
theorem fl_X0_68 : Cond.fieldLink RX0 68 "BeamOffice$Proposal" "queuePlace" "I" ∈ TW := tw_i 425 (by decide +kernel) rfl
theorem fl_X3_193 : Cond.fieldLink RX3 193 "BeamOffice$Proposal" "queuePlace" "I" ∈ TW := tw_i 426 (by decide +kernel) rfl
theorem fl_X2_15 : Cond.fieldLink RX2 15 "BeamOffice$Proposal" "sampleLife" "I" ∈ TW := tw_i 427 (by decide +kernel) rfl
theorem fl_X3_122 : Cond.fieldLink RX3 122 "BeamOffice$Proposal" "sampleLife" "I" ∈ TW := tw_i 428 (by decide +kernel) rfl
theorem fl_X2_18 : Cond.fieldLink RX2 18 "BeamOffice$Proposal" "samplePlace" "C" ∈ TW := tw_i 429 (by decide +kernel) rfl
theorem fl_X3_125 : Cond.fieldLink RX3 125 "BeamOffice$Proposal" "samplePlace" "C" ∈ TW := tw_i 430 (by decide +kernel) rfl
theorem fl_X2_22 : Cond.fieldLink RX2 22 "BeamOffice$Proposal" "done" "I" ∈ TW := tw_i 431 (by decide +kernel) rfl
theorem fl_X3_205 : Cond.fieldLink RX3 205 "BeamOffice$Proposal" "done" "I" ∈ TW := tw_i 432 (by decide +kernel) rfl
theorem fl_X2_25 : Cond.fieldLink RX2 25 "BeamOffice$Proposal" "missed" "I" ∈ TW := tw_i 433 (by decide +kernel) rfl
theorem fl_X3_208 : Cond.fieldLink RX3 208 "BeamOffice$Proposal" "missed" "I" ∈ TW := tw_i 434 (by decide +kernel) rfl
theorem fl_X2_28 : Cond.fieldLink RX2 28 "BeamOffice$Proposal" "lost" "I" ∈ TW := tw_i 435 (by decide +kernel) rfl
theorem fl_X3_211 : Cond.fieldLink RX3 211 "BeamOffice$Proposal" "lost" "I" ∈ TW := tw_i 436 (by decide +kernel) rfl
theorem fl_X2_31 : Cond.fieldLink RX2 31 "BeamOffice$Proposal" "owed" "I" ∈ TW := tw_i 437 (by decide +kernel) rfl
theorem fl_X0_105 : Cond.fieldLink RX0 105 "BeamOffice$Proposal" "owed" "I" ∈ TW := tw_i 438 (by decide +kernel) rfl
theorem fl_X3_214 : Cond.fieldLink RX3 214 "BeamOffice$Proposal" "owed" "I" ∈ TW := tw_i 439 (by decide +kernel) rfl
theorem ml_L_136 : Cond.methodLink RL 136 yL_meet ∈ TW := tw_i 467 (by decide +kernel) rfl
theorem st_L_meet : Cond.static yL_meet ∈ TW := tw_i 468 (by decide +kernel) rfl
theorem cd_L_meet : Cond.codeWith yL_meet cL_meet 3 (some .int) [(0, 5, 6, 27), (0, 5, 11, 22)] ∈ TW := tw_i 469 (by decide +kernel) rfl
theorem ml_L_33 : Cond.methodLink RL 33 yX3_meet ∈ TW := tw_i 470 (by decide +kernel) rfl
theorem im_X3_meet : Cond.instanceMethod yX3_meet ∈ TW := tw_i 471 (by decide +kernel) rfl
theorem se_X3_meet : Cond.selects RX3 yX3_meet yX3_meet ∈ TW := tw_i 472 (by decide +kernel) rfl
theorem cd_X3_meet : Cond.code yX3_meet cX3_meet 4 (some .int) ∈ TW := tw_i 473 (by decide +kernel) rfl
theorem ml_X3_91 : Cond.methodLink RX3 91 yX3_allotAtScore ∈ TW := tw_i 474 (by decide +kernel) rfl
theorem im_X3_allotAtScore : Cond.instanceMethod yX3_allotAtScore ∈ TW := tw_i 476 (by decide +kernel) rfl
theorem cd_X3_allotAtScore : Cond.code yX3_allotAtScore cX3_allotAtScore 5 none ∈ TW := tw_i 477 (by decide +kernel) rfl
theorem ml_X3_242 : Cond.methodLink RX3 242 yX0_allot ∈ TW := tw_i 478 (by decide +kernel) rfl
theorem im_X0_allot : Cond.instanceMethod yX0_allot ∈ TW := tw_i 479 (by decide +kernel) rfl
theorem se_X0_allot : Cond.selects RX0 yX0_allot yX0_allot ∈ TW := tw_i 480 (by decide +kernel) rfl
theorem cd_X0_allot : Cond.code yX0_allot cX0_allot 3 none ∈ TW := tw_i 481 (by decide +kernel) rfl
theorem ml_X0_64 : Cond.methodLink RX0 64 yX1_allot ∈ TW := tw_i 482 (by decide +kernel) rfl
theorem im_X1_allot : Cond.instanceMethod yX1_allot ∈ TW := tw_i 483 (by decide +kernel) rfl
theorem se_X1_allot : Cond.selects RX1 yX1_allot yX1_allot ∈ TW := tw_i 484 (by decide +kernel) rfl
theorem cd_X1_allot : Cond.code yX1_allot cX1_allot 3 (some .int) ∈ TW := tw_i 485 (by decide +kernel) rfl
theorem ml_X0_71 : Cond.methodLink RX0 71 yJx4a65c_add_9ea2d ∈ TW := tw_i 486 (by decide +kernel) rfl
theorem ml_L_138 : Cond.methodLink RL 138 yL_train ∈ TW := tw_i 487 (by decide +kernel) rfl
theorem st_L_train : Cond.static yL_train ∈ TW := tw_i 488 (by decide +kernel) rfl
theorem cd_L_train : Cond.codeWith yL_train cL_train 3 (some .int) [(0, 5, 6, 27), (0, 5, 11, 22)] ∈ TW := tw_i 489 (by decide +kernel) rfl
theorem ml_L_40 : Cond.methodLink RL 40 yX3_train ∈ TW := tw_i 490 (by decide +kernel) rfl
theorem im_X3_train : Cond.instanceMethod yX3_train ∈ TW := tw_i 491 (by decide +kernel) rfl
theorem se_X3_train : Cond.selects RX3 yX3_train yX3_train ∈ TW := tw_i 492 (by decide +kernel) rfl
theorem cd_X3_train : Cond.code yX3_train cX3_train 7 (some .int) ∈ TW := tw_i 493 (by decide +kernel) rfl
theorem ml_L_140 : Cond.methodLink RL 140 yL_setThere ∈ TW := tw_i 496 (by decide +kernel) rfl
theorem st_L_setThere : Cond.static yL_setThere ∈ TW := tw_i 497 (by decide +kernel) rfl
theorem cd_L_setThere : Cond.codeWith yL_setThere cL_setThere 4 (some .int) [(0, 14, 15, 27)] ∈ TW := tw_i 498 (by decide +kernel) rfl
theorem ml_L_43 : Cond.methodLink RL 43 yX3_setThere ∈ TW := tw_i 499 (by decide +kernel) rfl
theorem im_X3_setThere : Cond.instanceMethod yX3_setThere ∈ TW := tw_i 500 (by decide +kernel) rfl
theorem se_X3_setThere : Cond.selects RX3 yX3_setThere yX3_setThere ∈ TW := tw_i 501 (by decide +kernel) rfl
theorem cd_X3_setThere : Cond.code yX3_setThere cX3_setThere 4 (some .boolean) ∈ TW := tw_i 502 (by decide +kernel) rfl
theorem ml_L_143 : Cond.methodLink RL 143 yL_bring ∈ TW := tw_i 503 (by decide +kernel) rfl
theorem st_L_bring : Cond.static yL_bring ∈ TW := tw_i 504 (by decide +kernel) rfl
theorem cd_L_bring : Cond.codeWith yL_bring cL_bring 4 (some .int) [(0, 6, 7, 27), (0, 6, 12, 20)] ∈ TW := tw_i 505 (by decide +kernel) rfl
theorem ml_L_47 : Cond.methodLink RL 47 yX3_bring ∈ TW := tw_i 506 (by decide +kernel) rfl
theorem im_X3_bring : Cond.instanceMethod yX3_bring ∈ TW := tw_i 507 (by decide +kernel) rfl
theorem se_X3_bring : Cond.selects RX3 yX3_bring yX3_bring ∈ TW := tw_i 508 (by decide +kernel) rfl
theorem cd_X3_bring : Cond.code yX3_bring cX3_bring 5 (some .int) ∈ TW := tw_i 509 (by decide +kernel) rfl
theorem ml_X3_116 : Cond.methodLink RX3 116 yX3_proposalNumbered ∈ TW := tw_i 510 (by decide +kernel) rfl
theorem im_X3_proposalNumbered : Cond.instanceMethod yX3_proposalNumbered ∈ TW := tw_i 512 (by decide +kernel) rfl
theorem cd_X3_proposalNumbered : Cond.code yX3_proposalNumbered cX3_proposalNumbered 2 (some (.object "BeamOffice$Proposal")) ∈ TW := tw_i 513 (by decide +kernel) rfl
theorem ml_L_152 : Cond.methodLink RL 152 yL_put ∈ TW := tw_i 516 (by decide +kernel) rfl
theorem st_L_put : Cond.static yL_put ∈ TW := tw_i 517 (by decide +kernel) rfl
theorem cd_L_put : Cond.codeWith yL_put cL_put 4 (some .int) [(0, 6, 7, 27), (0, 6, 12, 20), (0, 6, 17, 54), (0, 6, 22, 56)] ∈ TW := tw_i 518 (by decide +kernel) rfl
theorem cl_L_54 : Cond.classLink RL 54 "java/util/NoSuchElementException" ∈ TW := tw_i 519 (by decide +kernel) rfl
theorem cl_L_56 : Cond.classLink RL 56 "java/lang/UnsupportedOperationException" ∈ TW := tw_i 520 (by decide +kernel) rfl
theorem ml_L_50 : Cond.methodLink RL 50 yX3_put ∈ TW := tw_i 521 (by decide +kernel) rfl
theorem im_X3_put : Cond.instanceMethod yX3_put ∈ TW := tw_i 522 (by decide +kernel) rfl
theorem se_X3_put : Cond.selects RX3 yX3_put yX3_put ∈ TW := tw_i 523 (by decide +kernel) rfl
theorem cd_X3_put : Cond.code yX3_put cX3_put 5 (some .char) ∈ TW := tw_i 524 (by decide +kernel) rfl
theorem ml_X3_131 : Cond.methodLink RX3 131 yX2_hasSample ∈ TW := tw_i 526 (by decide +kernel) rfl
theorem im_X2_hasSample : Cond.instanceMethod yX2_hasSample ∈ TW := tw_i 527 (by decide +kernel) rfl
theorem se_X2_hasSample : Cond.selects RX2 yX2_hasSample yX2_hasSample ∈ TW := tw_i 528 (by decide +kernel) rfl
theorem cd_X2_hasSample : Cond.code yX2_hasSample cX2_hasSample 1 (some .boolean) ∈ TW := tw_i 529 (by decide +kernel) rfl
theorem cl_X3_135 : Cond.classLink RX3 135 "java/util/NoSuchElementException" ∈ TW := tw_i 530 (by decide +kernel) rfl
theorem ca_NoSuchElementException_NoSuchElementException : Cond.castable "java/util/NoSuchElementException" "java/util/NoSuchElementException" ∈ BW := bw_i 532 (by decide +kernel) rfl
theorem ml_X3_140 : Cond.methodLink RX3 140 yX2_isCold ∈ TW := tw_i 546 (by decide +kernel) rfl
theorem im_X2_isCold : Cond.instanceMethod yX2_isCold ∈ TW := tw_i 547 (by decide +kernel) rfl
theorem se_X2_isCold : Cond.selects RX2 yX2_isCold yX2_isCold ∈ TW := tw_i 548 (by decide +kernel) rfl
theorem cd_X2_isCold : Cond.code yX2_isCold cX2_isCold 1 (some .boolean) ∈ TW := tw_i 549 (by decide +kernel) rfl
theorem ml_X2_53 : Cond.methodLink RX2 53 yX2_hasSample ∈ TW := tw_i 550 (by decide +kernel) rfl
theorem ml_X3_143 : Cond.methodLink RX3 143 yX3_countCold ∈ TW := tw_i 551 (by decide +kernel) rfl
theorem im_X3_countCold : Cond.instanceMethod yX3_countCold ∈ TW := tw_i 553 (by decide +kernel) rfl
theorem cd_X3_countCold : Cond.code yX3_countCold cX3_countCold 3 (some .int) ∈ TW := tw_i 554 (by decide +kernel) rfl
theorem cl_X3_146 : Cond.classLink RX3 146 "java/lang/UnsupportedOperationException" ∈ TW := tw_i 555 (by decide +kernel) rfl
theorem ca_UnsupportedOperationException_UnsupportedOperationException : Cond.castable "java/lang/UnsupportedOperationException" "java/lang/UnsupportedOperationException" ∈ BW := bw_i 557 (by decide +kernel) rfl
theorem ml_L_114 : Cond.methodLink RL 114 yL_life ∈ TW := tw_i 571 (by decide +kernel) rfl
theorem st_L_life : Cond.static yL_life ∈ TW := tw_i 572 (by decide +kernel) rfl
theorem cd_L_life : Cond.codeWith yL_life cL_life 3 (some .int) [(0, 5, 6, 27), (0, 5, 11, 54)] ∈ TW := tw_i 573 (by decide +kernel) rfl
theorem ml_L_58 : Cond.methodLink RL 58 yX3_life ∈ TW := tw_i 574 (by decide +kernel) rfl
theorem im_X3_life : Cond.instanceMethod yX3_life ∈ TW := tw_i 575 (by decide +kernel) rfl
theorem se_X3_life : Cond.selects RX3 yX3_life yX3_life ∈ TW := tw_i 576 (by decide +kernel) rfl
theorem cd_X3_life : Cond.code yX3_life cX3_life 3 (some .int) ∈ TW := tw_i 577 (by decide +kernel) rfl
theorem ml_L_107 : Cond.methodLink RL 107 yL_on ∈ TW := tw_i 578 (by decide +kernel) rfl
theorem st_L_on : Cond.static yL_on ∈ TW := tw_i 579 (by decide +kernel) rfl
theorem cd_L_on : Cond.codeWith yL_on cL_on 3 (some .int) [(0, 5, 6, 27), (0, 5, 11, 54)] ∈ TW := tw_i 580 (by decide +kernel) rfl
theorem ml_L_61 : Cond.methodLink RL 61 yX3_on ∈ TW := tw_i 581 (by decide +kernel) rfl
theorem im_X3_on : Cond.instanceMethod yX3_on ∈ TW := tw_i 582 (by decide +kernel) rfl
theorem se_X3_on : Cond.selects RX3 yX3_on yX3_on ∈ TW := tw_i 583 (by decide +kernel) rfl
theorem cd_X3_on : Cond.code yX3_on cX3_on 3 (some .int) ∈ TW := tw_i 584 (by decide +kernel) rfl
theorem ml_X3_151 : Cond.methodLink RX3 151 yX0_current ∈ TW := tw_i 585 (by decide +kernel) rfl
theorem im_X0_current : Cond.instanceMethod yX0_current ∈ TW := tw_i 586 (by decide +kernel) rfl
theorem se_X0_current : Cond.selects RX0 yX0_current yX0_current ∈ TW := tw_i 587 (by decide +kernel) rfl
theorem cd_X0_current : Cond.code yX0_current cX0_current 1 (some (.object "BeamOffice$Proposal")) ∈ TW := tw_i 588 (by decide +kernel) rfl
theorem ml_X0_83 : Cond.methodLink RX0 83 yX1_firstPlace ∈ TW := tw_i 589 (by decide +kernel) rfl
theorem im_X1_firstPlace : Cond.instanceMethod yX1_firstPlace ∈ TW := tw_i 590 (by decide +kernel) rfl
theorem se_X1_firstPlace : Cond.selects RX1 yX1_firstPlace yX1_firstPlace ∈ TW := tw_i 591 (by decide +kernel) rfl
theorem cd_X1_firstPlace : Cond.code yX1_firstPlace cX1_firstPlace 2 (some .int) ∈ TW := tw_i 592 (by decide +kernel) rfl
theorem ml_X1_22 : Cond.methodLink RX1 22 yX1_leftAt ∈ TW := tw_i 593 (by decide +kernel) rfl
theorem im_X1_leftAt : Cond.instanceMethod yX1_leftAt ∈ TW := tw_i 594 (by decide +kernel) rfl
theorem se_X1_leftAt : Cond.selects RX1 yX1_leftAt yX1_leftAt ∈ TW := tw_i 595 (by decide +kernel) rfl
theorem cd_X1_leftAt : Cond.code yX1_leftAt cX1_leftAt 2 (some .int) ∈ TW := tw_i 596 (by decide +kernel) rfl
theorem ml_X0_86 : Cond.methodLink RX0 86 yX0_proposalAt ∈ TW := tw_i 597 (by decide +kernel) rfl
theorem im_X0_proposalAt : Cond.instanceMethod yX0_proposalAt ∈ TW := tw_i 598 (by decide +kernel) rfl
theorem se_X0_proposalAt : Cond.selects RX0 yX0_proposalAt yX0_proposalAt ∈ TW := tw_i 599 (by decide +kernel) rfl
theorem cd_X0_proposalAt : Cond.code yX0_proposalAt cX0_proposalAt 2 (some (.object "BeamOffice$Proposal")) ∈ TW := tw_i 600 (by decide +kernel) rfl
theorem ml_X0_75 : Cond.methodLink RX0 75 yJx4a65c_size_8abf5 ∈ TW := tw_i 601 (by decide +kernel) rfl
theorem ml_X0_79 : Cond.methodLink RX0 79 yJx4a65c_get_915e3 ∈ TW := tw_i 602 (by decide +kernel) rfl
theorem cl_X0_60 : Cond.classLink RX0 60 "BeamOffice$Proposal" ∈ TW := tw_i 603 (by decide +kernel) rfl
theorem ml_L_109 : Cond.methodLink RL 109 yL_reason ∈ TW := tw_i 605 (by decide +kernel) rfl
theorem st_L_reason : Cond.static yL_reason ∈ TW := tw_i 606 (by decide +kernel) rfl
theorem cd_L_reason : Cond.codeWith yL_reason cL_reason 3 (some .int) [(0, 5, 6, 27)] ∈ TW := tw_i 607 (by decide +kernel) rfl
theorem ml_L_64 : Cond.methodLink RL 64 yX3_reason ∈ TW := tw_i 608 (by decide +kernel) rfl
theorem im_X3_reason : Cond.instanceMethod yX3_reason ∈ TW := tw_i 609 (by decide +kernel) rfl
theorem se_X3_reason : Cond.selects RX3 yX3_reason yX3_reason ∈ TW := tw_i 610 (by decide +kernel) rfl
theorem cd_X3_reason : Cond.code yX3_reason cX3_reason 2 (some .char) ∈ TW := tw_i 611 (by decide +kernel) rfl
theorem ml_X3_160 : Cond.methodLink RX3 160 yX3_reasonAt ∈ TW := tw_i 612 (by decide +kernel) rfl
theorem im_X3_reasonAt : Cond.instanceMethod yX3_reasonAt ∈ TW := tw_i 614 (by decide +kernel) rfl
theorem cd_X3_reasonAt : Cond.code yX3_reasonAt cX3_reasonAt 3 (some .char) ∈ TW := tw_i 615 (by decide +kernel) rfl
theorem ml_X3_249 : Cond.methodLink RX3 249 yX3_isMarked ∈ TW := tw_i 616 (by decide +kernel) rfl
theorem st_X3_isMarked : Cond.static yX3_isMarked ∈ TW := tw_i 617 (by decide +kernel) rfl
theorem cd_X3_isMarked : Cond.code yX3_isMarked cX3_isMarked 2 (some .boolean) ∈ TW := tw_i 618 (by decide +kernel) rfl
theorem ml_X3_253 : Cond.methodLink RX3 253 yX2_hasGoodSampleAtBeamline ∈ TW := tw_i 619 (by decide +kernel) rfl
theorem im_X2_hasGoodSampleAtBeamline : Cond.instanceMethod yX2_hasGoodSampleAtBeamline ∈ TW := tw_i 620 (by decide +kernel) rfl
theorem se_X2_hasGoodSampleAtBeamline : Cond.selects RX2 yX2_hasGoodSampleAtBeamline yX2_hasGoodSampleAtBeamline ∈ TW := tw_i 621 (by decide +kernel) rfl
theorem cd_X2_hasGoodSampleAtBeamline : Cond.code yX2_hasGoodSampleAtBeamline cX2_hasGoodSampleAtBeamline 1 (some .boolean) ∈ TW := tw_i 622 (by decide +kernel) rfl
theorem ml_L_154 : Cond.methodLink RL 154 yL_fail ∈ TW := tw_i 623 (by decide +kernel) rfl
theorem st_L_fail : Cond.static yL_fail ∈ TW := tw_i 624 (by decide +kernel) rfl
theorem cd_L_fail : Cond.codeWith yL_fail cL_fail 3 (some .int) [(0, 13, 14, 27), (0, 13, 19, 22)] ∈ TW := tw_i 625 (by decide +kernel) rfl
theorem ml_L_68 : Cond.methodLink RL 68 yX3_fail ∈ TW := tw_i 626 (by decide +kernel) rfl
theorem im_X3_fail : Cond.instanceMethod yX3_fail ∈ TW := tw_i 627 (by decide +kernel) rfl
theorem se_X3_fail : Cond.selects RX3 yX3_fail yX3_fail ∈ TW := tw_i 628 (by decide +kernel) rfl
theorem cd_X3_fail : Cond.code yX3_fail cX3_fail 3 (some .boolean) ∈ TW := tw_i 629 (by decide +kernel) rfl
theorem ml_L_160 : Cond.methodLink RL 160 yL_sums ∈ TW := tw_i 631 (by decide +kernel) rfl
theorem st_L_sums : Cond.static yL_sums ∈ TW := tw_i 632 (by decide +kernel) rfl
theorem cd_L_sums : Cond.code yL_sums cL_sums 11 (some .boolean) ∈ TW := tw_i 633 (by decide +kernel) rfl
theorem ml_L_95 : Cond.methodLink RL 95 yL_reserve ∈ TW := tw_i 634 (by decide +kernel) rfl
theorem st_L_reserve : Cond.static yL_reserve ∈ TW := tw_i 635 (by decide +kernel) rfl
theorem cd_L_reserve : Cond.codeWith yL_reserve cL_reserve 3 (some .int) [(0, 5, 6, 27), (0, 5, 11, 22)] ∈ TW := tw_i 636 (by decide +kernel) rfl
theorem ml_L_37 : Cond.methodLink RL 37 yX3_reserve ∈ TW := tw_i 637 (by decide +kernel) rfl
theorem im_X3_reserve : Cond.instanceMethod yX3_reserve ∈ TW := tw_i 638 (by decide +kernel) rfl
theorem se_X3_reserve : Cond.selects RX3 yX3_reserve yX3_reserve ∈ TW := tw_i 639 (by decide +kernel) rfl
theorem cd_X3_reserve : Cond.code yX3_reserve cX3_reserve 3 (some .int) ∈ TW := tw_i 640 (by decide +kernel) rfl
theorem ml_L_98 : Cond.methodLink RL 98 yL_left ∈ TW := tw_i 642 (by decide +kernel) rfl
theorem st_L_left : Cond.static yL_left ∈ TW := tw_i 643 (by decide +kernel) rfl
theorem cd_L_left : Cond.codeWith yL_left cL_left 3 (some .int) [(0, 5, 6, 27)] ∈ TW := tw_i 644 (by decide +kernel) rfl
theorem ml_L_78 : Cond.methodLink RL 78 yX3_left ∈ TW := tw_i 645 (by decide +kernel) rfl
theorem im_X3_left : Cond.instanceMethod yX3_left ∈ TW := tw_i 646 (by decide +kernel) rfl
theorem se_X3_left : Cond.selects RX3 yX3_left yX3_left ∈ TW := tw_i 647 (by decide +kernel) rfl
theorem cd_X3_left : Cond.code yX3_left cX3_left 2 (some .int) ∈ TW := tw_i 648 (by decide +kernel) rfl
theorem ml_X3_179 : Cond.methodLink RX3 179 yX3_leftKept ∈ TW := tw_i 649 (by decide +kernel) rfl
theorem st_X3_leftKept : Cond.static yX3_leftKept ∈ TW := tw_i 650 (by decide +kernel) rfl
theorem cd_X3_leftKept : Cond.code yX3_leftKept cX3_leftKept 1 (some .int) ∈ TW := tw_i 651 (by decide +kernel) rfl
theorem ml_X3_196 : Cond.methodLink RX3 196 yX1_leftAt ∈ TW := tw_i 652 (by decide +kernel) rfl
theorem ml_L_100 : Cond.methodLink RL 100 yL_count ∈ TW := tw_i 653 (by decide +kernel) rfl
theorem st_L_count : Cond.static yL_count ∈ TW := tw_i 654 (by decide +kernel) rfl
theorem cd_L_count : Cond.codeWith yL_count cL_count 4 (some .int) [(0, 6, 7, 27), (0, 6, 12, 20)] ∈ TW := tw_i 655 (by decide +kernel) rfl
theorem ml_L_87 : Cond.methodLink RL 87 yX3_count ∈ TW := tw_i 656 (by decide +kernel) rfl
theorem im_X3_count : Cond.instanceMethod yX3_count ∈ TW := tw_i 657 (by decide +kernel) rfl
theorem se_X3_count : Cond.selects RX3 yX3_count yX3_count ∈ TW := tw_i 658 (by decide +kernel) rfl
theorem cd_X3_count : Cond.code yX3_count cX3_count 4 (some .int) ∈ TW := tw_i 659 (by decide +kernel) rfl
theorem ml_L_103 : Cond.methodLink RL 103 yL_leftAnew ∈ TW := tw_i 661 (by decide +kernel) rfl
theorem st_L_leftAnew : Cond.static yL_leftAnew ∈ TW := tw_i 662 (by decide +kernel) rfl
theorem cd_L_leftAnew : Cond.codeWith yL_leftAnew cL_leftAnew 3 (some .int) [(0, 5, 6, 27)] ∈ TW := tw_i 663 (by decide +kernel) rfl
theorem ml_L_81 : Cond.methodLink RL 81 yX3_leftAnew ∈ TW := tw_i 664 (by decide +kernel) rfl
theorem im_X3_leftAnew : Cond.instanceMethod yX3_leftAnew ∈ TW := tw_i 665 (by decide +kernel) rfl
theorem se_X3_leftAnew : Cond.selects RX3 yX3_leftAnew yX3_leftAnew ∈ TW := tw_i 666 (by decide +kernel) rfl
theorem cd_X3_leftAnew : Cond.code yX3_leftAnew cX3_leftAnew 3 (some .int) ∈ TW := tw_i 667 (by decide +kernel) rfl
theorem ml_X3_187 : Cond.methodLink RX3 187 yX0_replay ∈ TW := tw_i 668 (by decide +kernel) rfl
theorem im_X0_replay : Cond.instanceMethod yX0_replay ∈ TW := tw_i 669 (by decide +kernel) rfl
theorem se_X0_replay : Cond.selects RX0 yX0_replay yX0_replay ∈ TW := tw_i 670 (by decide +kernel) rfl
theorem cd_X0_replay : Cond.code yX0_replay cX0_replay 2 none ∈ TW := tw_i 671 (by decide +kernel) rfl
theorem ml_X0_101 : Cond.methodLink RX0 101 yX1_follow ∈ TW := tw_i 672 (by decide +kernel) rfl
theorem im_X1_follow : Cond.instanceMethod yX1_follow ∈ TW := tw_i 673 (by decide +kernel) rfl
theorem se_X1_follow : Cond.selects RX1 yX1_follow yX1_follow ∈ TW := tw_i 674 (by decide +kernel) rfl
theorem cd_X1_follow : Cond.code yX1_follow cX1_follow 2 (some .int) ∈ TW := tw_i 675 (by decide +kernel) rfl
theorem ml_X1_26 : Cond.methodLink RX1 26 yX1_firstPlace ∈ TW := tw_i 676 (by decide +kernel) rfl
theorem ml_X1_30 : Cond.methodLink RX1 30 yX1_takeFrom ∈ TW := tw_i 677 (by decide +kernel) rfl
theorem im_X1_takeFrom : Cond.instanceMethod yX1_takeFrom ∈ TW := tw_i 678 (by decide +kernel) rfl
theorem se_X1_takeFrom : Cond.selects RX1 yX1_takeFrom yX1_takeFrom ∈ TW := tw_i 679 (by decide +kernel) rfl
theorem cd_X1_takeFrom : Cond.code yX1_takeFrom cX1_takeFrom 2 none ∈ TW := tw_i 680 (by decide +kernel) rfl
theorem ml_X1_34 : Cond.methodLink RX1 34 yX1_lose ∈ TW := tw_i 681 (by decide +kernel) rfl
theorem im_X1_lose : Cond.instanceMethod yX1_lose ∈ TW := tw_i 682 (by decide +kernel) rfl
theorem se_X1_lose : Cond.selects RX1 yX1_lose yX1_lose ∈ TW := tw_i 683 (by decide +kernel) rfl
theorem cd_X1_lose : Cond.code yX1_lose cX1_lose 2 (some .int) ∈ TW := tw_i 684 (by decide +kernel) rfl
theorem ml_X1_37 : Cond.methodLink RX1 37 yX1_lastPlace ∈ TW := tw_i 685 (by decide +kernel) rfl
theorem im_X1_lastPlace : Cond.instanceMethod yX1_lastPlace ∈ TW := tw_i 686 (by decide +kernel) rfl
theorem se_X1_lastPlace : Cond.selects RX1 yX1_lastPlace yX1_lastPlace ∈ TW := tw_i 687 (by decide +kernel) rfl
theorem cd_X1_lastPlace : Cond.code yX1_lastPlace cX1_lastPlace 2 (some .int) ∈ TW := tw_i 688 (by decide +kernel) rfl
theorem ml_L_105 : Cond.methodLink RL 105 yL_nextAt ∈ TW := tw_i 689 (by decide +kernel) rfl
theorem st_L_nextAt : Cond.static yL_nextAt ∈ TW := tw_i 690 (by decide +kernel) rfl
theorem cd_L_nextAt : Cond.codeWith yL_nextAt cL_nextAt 3 (some .int) [(0, 5, 6, 27), (0, 5, 11, 54)] ∈ TW := tw_i 691 (by decide +kernel) rfl
theorem ml_L_84 : Cond.methodLink RL 84 yX3_nextAt ∈ TW := tw_i 692 (by decide +kernel) rfl
theorem im_X3_nextAt : Cond.instanceMethod yX3_nextAt ∈ TW := tw_i 693 (by decide +kernel) rfl
theorem se_X3_nextAt : Cond.selects RX3 yX3_nextAt yX3_nextAt ∈ TW := tw_i 694 (by decide +kernel) rfl
theorem cd_X3_nextAt : Cond.code yX3_nextAt cX3_nextAt 3 (some .int) ∈ TW := tw_i 695 (by decide +kernel) rfl
theorem ml_X3_202 : Cond.methodLink RX3 202 yX1_leftAheadOf ∈ TW := tw_i 697 (by decide +kernel) rfl
theorem im_X1_leftAheadOf : Cond.instanceMethod yX1_leftAheadOf ∈ TW := tw_i 698 (by decide +kernel) rfl
theorem se_X1_leftAheadOf : Cond.selects RX1 yX1_leftAheadOf yX1_leftAheadOf ∈ TW := tw_i 699 (by decide +kernel) rfl
theorem cd_X1_leftAheadOf : Cond.code yX1_leftAheadOf cX1_leftAheadOf 4 (some .int) ∈ TW := tw_i 700 (by decide +kernel) rfl
theorem ml_L_164 : Cond.methodLink RL 164 yL_lines ∈ TW := tw_i 701 (by decide +kernel) rfl
theorem st_L_lines : Cond.static yL_lines ∈ TW := tw_i 702 (by decide +kernel) rfl
theorem cd_L_lines : Cond.code yL_lines cL_lines 10 (some .boolean) ∈ TW := tw_i 703 (by decide +kernel) rfl
theorem ml_L_111 : Cond.methodLink RL 111 yX3_time ∈ TW := tw_i 704 (by decide +kernel) rfl
theorem im_X3_time : Cond.instanceMethod yX3_time ∈ TW := tw_i 705 (by decide +kernel) rfl
theorem se_X3_time : Cond.selects RX3 yX3_time yX3_time ∈ TW := tw_i 706 (by decide +kernel) rfl
theorem cd_X3_time : Cond.code yX3_time cX3_time 1 (some .int) ∈ TW := tw_i 707 (by decide +kernel) rfl
theorem ml_L_156 : Cond.methodLink RL 156 yL_shift ∈ TW := tw_i 708 (by decide +kernel) rfl
theorem st_L_shift : Cond.static yL_shift ∈ TW := tw_i 709 (by decide +kernel) rfl
theorem cd_L_shift : Cond.code yL_shift cL_shift 8 (some .boolean) ∈ TW := tw_i 710 (by decide +kernel) rfl
theorem ml_L_116 : Cond.methodLink RL 116 yL_pass ∈ TW := tw_i 711 (by decide +kernel) rfl
theorem st_L_pass : Cond.static yL_pass ∈ TW := tw_i 712 (by decide +kernel) rfl
theorem cd_L_pass : Cond.codeWith yL_pass cL_pass 3 (some .int) [(0, 5, 6, 20), (0, 5, 11, 22)] ∈ TW := tw_i 713 (by decide +kernel) rfl
theorem ml_L_72 : Cond.methodLink RL 72 yX3_pass ∈ TW := tw_i 714 (by decide +kernel) rfl
theorem im_X3_pass : Cond.instanceMethod yX3_pass ∈ TW := tw_i 715 (by decide +kernel) rfl
theorem se_X3_pass : Cond.selects RX3 yX3_pass yX3_pass ∈ TW := tw_i 716 (by decide +kernel) rfl
theorem cd_X3_pass : Cond.code yX3_pass cX3_pass 4 (some .int) ∈ TW := tw_i 717 (by decide +kernel) rfl
theorem ml_X3_173 : Cond.methodLink RX3 173 yX3_passOne ∈ TW := tw_i 720 (by decide +kernel) rfl
theorem im_X3_passOne : Cond.instanceMethod yX3_passOne ∈ TW := tw_i 722 (by decide +kernel) rfl
theorem cd_X3_passOne : Cond.code yX3_passOne cX3_passOne 5 (some .int) ∈ TW := tw_i 723 (by decide +kernel) rfl
theorem ml_X3_262 : Cond.methodLink RX3 262 yX3_kindFor ∈ TW := tw_i 724 (by decide +kernel) rfl
theorem st_X3_kindFor : Cond.static yX3_kindFor ∈ TW := tw_i 725 (by decide +kernel) rfl
theorem cd_X3_kindFor : Cond.code yX3_kindFor cX3_kindFor 1 (some .char) ∈ TW := tw_i 726 (by decide +kernel) rfl
theorem ml_X3_266 : Cond.methodLink RX3 266 yX0_runShift ∈ TW := tw_i 727 (by decide +kernel) rfl
theorem im_X0_runShift : Cond.instanceMethod yX0_runShift ∈ TW := tw_i 728 (by decide +kernel) rfl
theorem se_X0_runShift : Cond.selects RX0 yX0_runShift yX0_runShift ∈ TW := tw_i 729 (by decide +kernel) rfl
theorem cd_X0_runShift : Cond.code yX0_runShift cX0_runShift 4 none ∈ TW := tw_i 730 (by decide +kernel) rfl
theorem ml_X0_90 : Cond.methodLink RX0 90 yX0_current ∈ TW := tw_i 731 (by decide +kernel) rfl
theorem ml_X0_94 : Cond.methodLink RX0 94 yX2_countShift ∈ TW := tw_i 732 (by decide +kernel) rfl
theorem im_X2_countShift : Cond.instanceMethod yX2_countShift ∈ TW := tw_i 733 (by decide +kernel) rfl
theorem se_X2_countShift : Cond.selects RX2 yX2_countShift yX2_countShift ∈ TW := tw_i 734 (by decide +kernel) rfl
theorem cd_X2_countShift : Cond.code yX2_countShift cX2_countShift 2 none ∈ TW := tw_i 735 (by decide +kernel) rfl
theorem ml_X0_108 : Cond.methodLink RX0 108 yX0_note ∈ TW := tw_i 736 (by decide +kernel) rfl
theorem im_X0_note : Cond.instanceMethod yX0_note ∈ TW := tw_i 737 (by decide +kernel) rfl
theorem se_X0_note : Cond.selects RX0 yX0_note yX0_note ∈ TW := tw_i 738 (by decide +kernel) rfl
theorem cd_X0_note : Cond.code yX0_note cX0_note 2 none ∈ TW := tw_i 739 (by decide +kernel) rfl
theorem ml_X0_111 : Cond.methodLink RX0 111 yJ9_max_7cf53 ∈ TW := tw_i 740 (by decide +kernel) rfl
theorem ml_X3_270 : Cond.methodLink RX3 270 yX2_ageSample ∈ TW := tw_i 741 (by decide +kernel) rfl
theorem im_X2_ageSample : Cond.instanceMethod yX2_ageSample ∈ TW := tw_i 742 (by decide +kernel) rfl
theorem se_X2_ageSample : Cond.selects RX2 yX2_ageSample yX2_ageSample ∈ TW := tw_i 743 (by decide +kernel) rfl
theorem cd_X2_ageSample : Cond.code yX2_ageSample cX2_ageSample 1 none ∈ TW := tw_i 744 (by decide +kernel) rfl
theorem ml_L_118 : Cond.methodLink RL 118 yJ9_max_7cf53 ∈ TW := tw_i 745 (by decide +kernel) rfl
theorem ml_L_147 : Cond.methodLink RL 147 yJ0_charAt_5068e ∈ TW := tw_i 746 (by decide +kernel) rfl
theorem im_J0_charAt_5068e : Cond.instanceMethod yJ0_charAt_5068e ∈ TW := tw_i 747 (by decide +kernel) rfl
theorem se_J0_charAt_5068e : Cond.selects RJ0 yJ0_charAt_5068e yJ0_charAt_5068e ∈ TW := tw_i 748 (by decide +kernel) rfl
theorem cd_J0_charAt_5068e : Cond.code yJ0_charAt_5068e cJ0_charAt_5068e 2 (some .char) ∈ TW := tw_i 749 (by decide +kernel) rfl
theorem ml_J0_492 : Cond.methodLink RJ0 492 yJ0_isLatin1_aae02 ∈ TW := tw_i 750 (by decide +kernel) rfl
theorem im_J0_isLatin1_aae02 : Cond.instanceMethod yJ0_isLatin1_aae02 ∈ TW := tw_i 751 (by decide +kernel) rfl
theorem se_J0_isLatin1_aae02 : Cond.selects RJ0 yJ0_isLatin1_aae02 yJ0_isLatin1_aae02 ∈ TW := tw_i 752 (by decide +kernel) rfl
theorem cd_J0_isLatin1_aae02 : Cond.code yJ0_isLatin1_aae02 cJ0_isLatin1_aae02 1 (some .boolean) ∈ TW := tw_i 753 (by decide +kernel) rfl
theorem fl_J0_38 : Cond.fieldLink RJ0 38 "java/lang/String" "COMPACT_STRINGS" "Z" ∈ TW := tw_i 754 (by decide +kernel) rfl
theorem ml_J0_495 : Cond.methodLink RJ0 495 yJ1_charAt_3b067 ∈ TW := tw_i 756 (by decide +kernel) rfl
theorem st_J1_charAt_3b067 : Cond.static yJ1_charAt_3b067 ∈ TW := tw_i 757 (by decide +kernel) rfl
theorem cd_J1_charAt_3b067 : Cond.code yJ1_charAt_3b067 cJ1_charAt_3b067 2 (some .char) ∈ TW := tw_i 758 (by decide +kernel) rfl
theorem ml_J1_9 : Cond.methodLink RJ1 9 yJ0_checkIndex_df160 ∈ TW := tw_i 759 (by decide +kernel) rfl
theorem st_J0_checkIndex_df160 : Cond.static yJ0_checkIndex_df160 ∈ TW := tw_i 760 (by decide +kernel) rfl
theorem cd_J0_checkIndex_df160 : Cond.code yJ0_checkIndex_df160 cJ0_checkIndex_df160 2 none ∈ TW := tw_i 761 (by decide +kernel) rfl
theorem fl_J0_1053 : Cond.fieldLink RJ0 1053 "jdk/internal/util/Preconditions" "SIOOBE_FORMATTER" "Ljava/util/function/BiFunction;" ∈ TW := tw_i 762 (by decide +kernel) rfl
theorem ml_J0_1059 : Cond.methodLink RJ0 1059 yJ3_checkIndex_8e157 ∈ TW := tw_i 764 (by decide +kernel) rfl
theorem ml_J0_498 : Cond.methodLink RJ0 498 yJ2_charAt_3b067 ∈ TW := tw_i 765 (by decide +kernel) rfl
theorem st_J2_charAt_3b067 : Cond.static yJ2_charAt_3b067 ∈ TW := tw_i 766 (by decide +kernel) rfl
theorem cd_J2_charAt_3b067 : Cond.code yJ2_charAt_3b067 cJ2_charAt_3b067 2 (some .char) ∈ TW := tw_i 767 (by decide +kernel) rfl
theorem ml_J2_67 : Cond.methodLink RJ2 67 yJ2_checkIndex_2214a ∈ TW := tw_i 768 (by decide +kernel) rfl
theorem st_J2_checkIndex_2214a : Cond.static yJ2_checkIndex_2214a ∈ TW := tw_i 769 (by decide +kernel) rfl
theorem cd_J2_checkIndex_2214a : Cond.code yJ2_checkIndex_2214a cJ2_checkIndex_2214a 2 none ∈ TW := tw_i 770 (by decide +kernel) rfl
theorem ml_J2_48 : Cond.methodLink RJ2 48 yJ2_length_9d52b ∈ TW := tw_i 771 (by decide +kernel) rfl
theorem st_J2_length_9d52b : Cond.static yJ2_length_9d52b ∈ TW := tw_i 772 (by decide +kernel) rfl
theorem cd_J2_length_9d52b : Cond.code yJ2_length_9d52b cJ2_length_9d52b 1 (some .int) ∈ TW := tw_i 773 (by decide +kernel) rfl
theorem ml_J2_414 : Cond.methodLink RJ2 414 yJ0_checkIndex_df160 ∈ TW := tw_i 774 (by decide +kernel) rfl
theorem ml_J2_71 : Cond.methodLink RJ2 71 yJ2_getChar_3b067 ∈ TW := tw_i 775 (by decide +kernel) rfl
theorem st_J2_getChar_3b067 : Cond.static yJ2_getChar_3b067 ∈ TW := tw_i 776 (by decide +kernel) rfl
theorem cd_J2_getChar_3b067 : Cond.code yJ2_getChar_3b067 cJ2_getChar_3b067 2 (some .char) ∈ TW := tw_i 777 (by decide +kernel) rfl
theorem fl_J2_44 : Cond.fieldLink RJ2 44 "java/lang/StringUTF16" "$assertionsDisabled" "Z" ∈ TW := tw_i 778 (by decide +kernel) rfl
theorem fl_J2_59 : Cond.fieldLink RJ2 59 "java/lang/StringUTF16" "HI_BYTE_SHIFT" "I" ∈ TW := tw_i 780 (by decide +kernel) rfl
theorem fl_J2_63 : Cond.fieldLink RJ2 63 "java/lang/StringUTF16" "LO_BYTE_SHIFT" "I" ∈ TW := tw_i 782 (by decide +kernel) rfl
theorem ca_ArrayIndexOutOfBoundsException_IndexOutOfBoundsException : Cond.castable "java/lang/ArrayIndexOutOfBoundsException" "java/lang/IndexOutOfBoundsException" ∈ BW := bw_i 786 (by decide +kernel) rfl
theorem ca_BeamOffice_Object : Cond.castable "BeamOffice" "java/lang/Object" ∈ BW := bw_i 787 (by decide +kernel) rfl
theorem ca_ArrayList_Object : Cond.castable "java/util/ArrayList" "java/lang/Object" ∈ BW := bw_i 788 (by decide +kernel) rfl
theorem ca_IllegalArgumentException_Object : Cond.castable "java/lang/IllegalArgumentException" "java/lang/Object" ∈ BW := bw_i 789 (by decide +kernel) rfl
theorem ca_IllegalStateException_Object : Cond.castable "java/lang/IllegalStateException" "java/lang/Object" ∈ BW := bw_i 790 (by decide +kernel) rfl
theorem ca_BeamOffice_Beamline_Object : Cond.castable "BeamOffice$Beamline" "java/lang/Object" ∈ BW := bw_i 791 (by decide +kernel) rfl
theorem ca_BeamOffice_Calendar_Object : Cond.castable "BeamOffice$Calendar" "java/lang/Object" ∈ BW := bw_i 792 (by decide +kernel) rfl
theorem ca_ArrayIndexOutOfBoundsException_Object : Cond.castable "java/lang/ArrayIndexOutOfBoundsException" "java/lang/Object" ∈ BW := bw_i 793 (by decide +kernel) rfl
theorem ca_IndexOutOfBoundsException_Object : Cond.castable "java/lang/IndexOutOfBoundsException" "java/lang/Object" ∈ BW := bw_i 794 (by decide +kernel) rfl
theorem ca_BeamOffice_Proposal_Object : Cond.castable "BeamOffice$Proposal" "java/lang/Object" ∈ BW := bw_i 795 (by decide +kernel) rfl
theorem ca_NoSuchElementException_Object : Cond.castable "java/util/NoSuchElementException" "java/lang/Object" ∈ BW := bw_i 796 (by decide +kernel) rfl
theorem ca_UnsupportedOperationException_Object : Cond.castable "java/lang/UnsupportedOperationException" "java/lang/Object" ∈ BW := bw_i 797 (by decide +kernel) rfl
theorem ca_Throwable_Object : Cond.castable "java/lang/Throwable" "java/lang/Object" ∈ BW := bw_i 798 (by decide +kernel) rfl
theorem ca_String_Object : Cond.castable "java/lang/String" "java/lang/Object" ∈ BW := bw_i 799 (by decide +kernel) rfl
theorem fl_J0_15 : Cond.fieldLink RJ0 15 "java/lang/String" "coder" "B" ∈ TW := tw_i 808 (by decide +kernel) rfl
theorem fl_J0_9 : Cond.fieldLink RJ0 9 "java/lang/String" "value" "[B" ∈ TW := tw_i 809 (by decide +kernel) rfl
def SL : List (String × Nat × String) := [("BeamOffice", 36, "the run is out of range"), ("BeamOffice", 41, "the room is out of range"), ("BeamOffice", 49, "no more beamlines"), ("BeamOffice", 238, "no such beamline"), ("BeamOffice", 65, "the rate is out of range"), ("BeamOffice", 70, "the user is out of range"), ("BeamOffice", 72, "the score is out of range"), ("BeamOffice", 74, "the wanted shifts are out of range"), ("BeamOffice", 76, "the data is out of range"), ("BeamOffice", 82, "the panel has met"), ("BeamOffice", 84, "no more proposals"), ("BeamOffice", 111, "no such user"), ("BeamOffice", 114, "the user is trained"), ("BeamOffice", 240, "no such proposal"), ("BeamOffice", 120, "the life is out of range"), ("BeamOffice", 129, "no such place"), ("BeamOffice", 137, "no sample"), ("BeamOffice", 148, "the cold is full"), ("BeamOffice", 155, "no proposal is on"), ("BeamOffice", 167, "there is a fault"), ("BeamOffice", 98, "the panel has not met"), ("BeamOffice", 217, "no such kind"), ("BeamOffice", 200, "no shifts left"), ("BeamOffice", 169, "the shifts are out of range"), ("BeamOffice", 171, "too many shifts would have passed")]
theorem uw_Jx4a65c : ∀ w ∈ u_ws RJx4a65c TJx4a65c 3, w ∈ TW := by decide +kernel
theorem uw_X0 : ∀ w ∈ u_ws RX0 TX0 11, w ∈ TW := by decide +kernel
theorem uw_X1 : ∀ w ∈ u_ws RX1 TX1 3, w ∈ TW := by decide +kernel
theorem uw_X2 : ∀ w ∈ u_ws RX2 TX2 13, w ∈ TW := by decide +kernel
theorem uw_X3 : ∀ w ∈ u_ws RX3 TX3 5, w ∈ TW := by decide +kernel
end
section
abbrev GW : Type := va_G × (Nat → ClassId) × Nat
abbrev RH : Type := Nat → Option va_E
abbrev AD : Type := Nat → Nat
abbrev LV : Type := List (Option Value)
def aTys (g : GW) : List (ClassId × FieldType) := [(g.2.1 0, .char), (g.2.1 1, .int), (g.2.1 2, .boolean), (g.2.1 3, .object "java/lang/Object")]
def aH (g : GW) (ad : AD) (τ : RH) (H : Heap) : Prop := (∀ r e, τ r = some e → va_at g.1 vwCl (ad r, e) H) ∧ ∀ r r' e e', τ r = some e → τ r' = some e' → ad r = ad r' → r = r'
def aIn (ad : AD) (τ : RH) (A : Nat → Prop) : Prop := ∀ r e, τ r = some e → A (ad r)
def aA (ad : AD) (τ : RH) (sz : Nat) : Nat → Prop := fun q => (∃ r e, τ r = some e ∧ q = ad r) ∨ sz ≤ q
def NC : List (String × String) := [("java/lang/IllegalStateException", "java/lang/IllegalArgumentException"), ("java/lang/IndexOutOfBoundsException", "java/lang/IllegalArgumentException"), ("java/util/NoSuchElementException", "java/lang/IllegalArgumentException"), ("java/lang/UnsupportedOperationException", "java/lang/IllegalArgumentException"), ("java/lang/IllegalArgumentException", "java/lang/IllegalStateException"), ("java/lang/IndexOutOfBoundsException", "java/lang/IllegalStateException"), ("java/util/NoSuchElementException", "java/lang/IllegalStateException"), ("java/lang/UnsupportedOperationException", "java/lang/IllegalStateException"), ("java/lang/IllegalArgumentException", "java/lang/IndexOutOfBoundsException"), ("java/lang/IllegalStateException", "java/lang/IndexOutOfBoundsException"), ("java/util/NoSuchElementException", "java/lang/IndexOutOfBoundsException"), ("java/lang/UnsupportedOperationException", "java/lang/IndexOutOfBoundsException"), ("java/lang/IllegalArgumentException", "java/util/NoSuchElementException"), ("java/lang/IllegalStateException", "java/util/NoSuchElementException"), ("java/lang/IndexOutOfBoundsException", "java/util/NoSuchElementException"), ("java/lang/UnsupportedOperationException", "java/util/NoSuchElementException"), ("java/lang/IllegalArgumentException", "java/lang/UnsupportedOperationException"), ("java/lang/IllegalStateException", "java/lang/UnsupportedOperationException"), ("java/lang/IndexOutOfBoundsException", "java/lang/UnsupportedOperationException"), ("java/util/NoSuchElementException", "java/lang/UnsupportedOperationException")]
/-- the law's text of places, and what its look needs -/
def GS (A : Nat → Prop) (U : State) (H : Heap) : Prop :=
  (∃ adK adV : Nat → Nat, vk_S 1 [5] [[114, 99, 98, 98, 98]] adK adV A U H ∧ vk_R RL 145 "rcbbb" (adK 0) U) ∧ va_Z "java/lang/String" "COMPACT_STRINGS" "Z" (.int 1) A U H ∧ va_Zq "jdk/internal/util/Preconditions" "SIOOBE_FORMATTER" "Ljava/util/function/BiFunction;" A U H
theorem GS.move {A B : Nat → Prop} {u U : State} {H H1 : Heap} (hW : u.WarmedH U.vm) (hq : ∀ a : Nat, a < H.size → ¬ A a → H1[a]? = H[a]?) (hAB : ∀ q, B q → A q) (h : GS A u H) : GS B U H1 := by
  obtain ⟨⟨adK, adV, h1, h2⟩, h3, h4⟩ := h
  have hv := hW.alike
  exact ⟨⟨adK, adV, ((h1.moved hv).kept hq).narrow hAB, h2.warm hW⟩, ((h3.moved hv).kept hq).narrow hAB, ((h4.moved hv).kept hq).narrow hAB⟩
/-- what stays true of the machine's tables and statics: class ids, two statics of Throwable, the list's empty array, words, texts -/
def Gl (g : GW) (A : Nat → Prop) (U : State) (H : Heap) : Prop :=
  va_K g.1 vwCl (aTys g) U ∧ vx_Zq Bundle.tN "UNASSIGNED_STACK" Bundle.steD A U H ∧ vx_Zq Bundle.tN "SUPPRESSED_SENTINEL" Bundle.listD A U H ∧
  va_Z "java/util/ArrayList" "DEFAULTCAPACITY_EMPTY_ELEMENTDATA" "[Ljava/lang/Object;" (.ref g.2.2) A U H ∧ va_T (.object "java/lang/Object") g.2.2 0 (fun _ => .null) A U H ∧
  (∀ w ∈ BW, va_Nw w U) ∧ (∀ q ∈ SL, ∃ a, vk_R q.1 q.2.1 q.2.2 a U) ∧ va_AO "java/lang/Object" U ∧ (∀ q ∈ NC, va_Nc q.1 q.2 U) ∧ GS A U H
theorem Gl.move {g : GW} {A B : Nat → Prop} {u U : State} {H H1 : Heap} (hW : u.WarmedH U.vm) (hq : ∀ a : Nat, a < H.size → ¬ A a → H1[a]? = H[a]?) (hAB : ∀ q, B q → A q) (h : Gl g A u H) : Gl g B U H1 := by
  obtain ⟨h1, h2, h3, h4, h5, h6, h7, h8, h9, h10⟩ := h
  have hv := hW.alike
  refine ⟨va_K.moved hv h1, ((h2.moved hv).kept hq).narrow hAB, ((h3.moved hv).kept hq).narrow hAB, ((h4.moved hv).kept hq).narrow hAB, ((h5.moved hv).kept hq).narrow hAB, fun w hw => ?_, fun q hq => ?_, h8.moved hv, fun q hq => (h9 q hq).moved hv, h10.move hW hq hAB⟩
  · have hb := (List.mem_filter.mp hw).2
    have h := h6 w hw
    cases w <;> first | exact va_Nw.warmC hW h | exact va_Nw.warmD hW h | exact va_Nw.warmM hW h | (simp [bw_is] at hb)
  · obtain ⟨a, ha⟩ := h7 q hq
    exact ⟨a, ha.warm hW⟩
theorem aH_at {g : GW} {ad : AD} {τ : RH} {H : Heap} (h : aH g ad τ H) {r : Nat} {e : va_E} (hr : τ r = some e) : va_at g.1 vwCl (ad r, e) H := h.1 r e hr
theorem aH_lt {g : GW} {ad : AD} {τ : RH} {H : Heap} (h : aH g ad τ H) {r : Nat} {e : va_E} (hr : τ r = some e) : ad r < H.size := (h.1 r e hr).lt
theorem aH_ne {g : GW} {ad : AD} {τ : RH} {H : Heap} (h : aH g ad τ H) {r r' : Nat} {e e' : va_E} (hr : τ r = some e) (hr' : τ r' = some e') (hn : r ≠ r') : ad r ≠ ad r' := fun q => hn (h.2 r r' e e' hr hr' q)
theorem aH_set {g : GW} {ad : AD} {τ : RH} {H H1 : Heap} (h : aH g ad τ H) {r : Nat} {e0 e : va_E} (hr : τ r = some e0) (he : va_at g.1 vwCl (ad r, e) H1) (hq : ∀ q : Nat, q ≠ ad r → H1[q]? = H[q]?) : aH g ad (va_up τ r (some e)) H1 := by
  refine ⟨fun r' e' h' => ?_, fun r1 r2 e1 e2 h1 h2 hh => ?_⟩
  · by_cases hx : r' = r
    · subst hx
      rw [va_up_self] at h'
      cases h'
      exact he
    · rw [va_up_ne _ _ hx] at h'
      exact (h.1 r' e' h').kept (hq _ (aH_ne h h' hr hx))
  · have k : ∀ x ex, va_up τ r (some e) x = some ex → ∃ ey, τ x = some ey := fun x ex hx => by
      by_cases hy : x = r
      · subst hy; exact ⟨_, hr⟩
      · rw [va_up_ne _ _ hy] at hx; exact ⟨_, hx⟩
    obtain ⟨y1, g1⟩ := k r1 e1 h1
    obtain ⟨y2, g2⟩ := k r2 e2 h2
    exact h.2 r1 r2 y1 y2 g1 g2 hh
theorem aIn_set {ad : AD} {τ : RH} {A : Nat → Prop} (h : aIn ad τ A) {r : Nat} {e0 e : va_E} (hr : τ r = some e0) : aIn ad (va_up τ r (some e)) A := fun r' e' h' => by
  by_cases hx : r' = r
  · subst hx; exact h _ _ hr
  · rw [va_up_ne _ _ hx] at h'; exact h _ _ h'
theorem aH_push {g : GW} {ad : AD} {τ : RH} {H H1 : Heap} (h : aH g ad τ H) {r : Nat} {e : va_E} (hr : τ r = none) (he : va_at g.1 vwCl (H.size, e) H1) (hq : ∀ q : Nat, q < H.size → H1[q]? = H[q]?) : aH g (va_up ad r H.size) (va_up τ r (some e)) H1 := by
  have k : ∀ x ex, va_up τ r (some e) x = some ex → (x = r ∧ va_up ad r H.size x = H.size ∧ ex = e) ∨ (x ≠ r ∧ va_up ad r H.size x = ad x ∧ τ x = some ex) := fun x ex hx => by
    by_cases hy : x = r
    · subst hy; rw [va_up_self] at hx; cases hx; exact Or.inl ⟨rfl, va_up_self _ _ _, rfl⟩
    · rw [va_up_ne _ _ hy] at hx; exact Or.inr ⟨hy, va_up_ne _ _ hy, hx⟩
  refine ⟨fun r' e' h' => ?_, fun r1 r2 e1 e2 h1 h2 hh => ?_⟩
  · rcases k r' e' h' with ⟨_, h2, rfl⟩ | ⟨_, h2, h3⟩
    · rw [h2]; exact he
    · rw [h2]; exact (h.1 r' e' h3).kept (hq _ (aH_lt h h3))
  · rcases k r1 e1 h1 with ⟨a1, a2, _⟩ | ⟨a1, a2, a3⟩ <;> rcases k r2 e2 h2 with ⟨b1, b2, _⟩ | ⟨b1, b2, b3⟩
    · rw [a1, b1]
    · rw [a2, b2] at hh; exact absurd hh.symm (Nat.ne_of_lt (aH_lt h b3))
    · rw [a2, b2] at hh; exact absurd hh (Nat.ne_of_lt (aH_lt h a3))
    · rw [a2, b2] at hh; exact h.2 r1 r2 _ _ a3 b3 hh
theorem aIn_push {ad : AD} {τ : RH} {A : Nat → Prop} (h : aIn ad τ A) {r q : Nat} {e : va_E} (hA : A q) : aIn (va_up ad r q) (va_up τ r (some e)) A := fun r' e' h' => by
  by_cases hx : r' = r
  · subst hx; rw [va_up_self]; exact hA
  · rw [va_up_ne _ _ hx] at h' ⊢; exact h _ _ h'
/-- the locals that are known -/
def lH (ls : Array Slot) (nL : Nat) (lv : LV) : Prop := ls.size = nL ∧ lv_wf ls ∧ ∀ (i : Nat) (v : Value), lv[i]? = some (some v) → ls[i]? = some (.val v)
def lPairs (lv : LV) : List (Nat × Value) := (List.range lv.length).filterMap fun j => match lv[j]? with
  | some (some w) => some (j, w)
  | _ => none
theorem lPairs_mem {lv : LV} {i : Nat} {v : Value} : (i, v) ∈ lPairs lv ↔ lv[i]? = some (some v) := by
  unfold lPairs
  rw [List.mem_filterMap]
  constructor
  · rintro ⟨j, -, hj⟩
    cases hx : lv[j]? with
    | none => rw [hx] at hj; cases hj
    | some o =>
      cases o with
      | none => rw [hx] at hj; cases hj
      | some w => rw [hx] at hj; cases hj; exact hx
  · intro h
    refine ⟨i, List.mem_range.mpr (List.getElem?_eq_some_iff.mp h).1, ?_⟩
    rw [h]
theorem lH.has {ls : Array Slot} {nL : Nat} {lv : LV} (h : lH ls nL lv) : lv_has ls nL (lPairs lv) := ⟨h.1, h.2.1, fun q hq => h.2.2 q.1 q.2 (lPairs_mem.mp hq)⟩
theorem lH.set1 {ls' : Array Slot} {nL i : Nat} {lv : LV} {v : Value} (hp : ∀ w, lv[i - 1]? = some (some w) → 0 < i → w.category = 1) (h' : lv_has ls' nL ((i, v) :: (lPairs lv).filter (fun q => !(q.1 == i) && !(q.1 + 1 == i && q.2.category == 2)))) : lH ls' nL (lv.set i (some v)) := by
  refine ⟨h'.1, h'.2.1, fun j w hj => ?_⟩
  by_cases hij : j = i
  · subst hij
    by_cases hl : j < lv.length
    · rw [List.getElem?_set_self hl] at hj
      cases hj
      exact h'.2.2 (j, v) List.mem_cons_self
    · rw [List.getElem?_eq_none (by rw [List.length_set]; omega)] at hj
      cases hj
  · rw [List.getElem?_set_ne (fun q => hij q.symm)] at hj
    refine h'.2.2 (j, w) (List.mem_cons_of_mem _ (List.mem_filter.mpr ⟨lPairs_mem.mpr hj, ?_⟩))
    have e1 : (j == i) = false := by simpa using hij
    by_cases h1 : j + 1 = i
    · have := hp w (by rw [← h1]; exact hj) (by omega)
      simp [hij, this]
    · simp [hij, h1]
theorem lH.set2 {ls' : Array Slot} {nL i : Nat} {lv : LV} {v : Value} (hp : ∀ w, lv[i - 1]? = some (some w) → 0 < i → w.category = 1) (h' : lv_has ls' nL ((i, v) :: (lPairs lv).filter (fun q => !(q.1 == i) && (!(q.1 == i + 1) && !(q.1 + 1 == i && q.2.category == 2))))) : lH ls' nL ((lv.set i (some v)).set (i + 1) none) := by
  refine ⟨h'.1, h'.2.1, fun j w hj => ?_⟩
  by_cases hj1 : j = i + 1
  · subst hj1
    by_cases hl : i + 1 < (lv.set i (some v)).length
    · rw [List.getElem?_set_self hl] at hj; cases hj
    · rw [List.getElem?_eq_none (by rw [List.length_set]; omega)] at hj; cases hj
  · rw [List.getElem?_set_ne (fun q => hj1 q.symm)] at hj
    by_cases hij : j = i
    · subst hij
      by_cases hl : j < lv.length
      · rw [List.getElem?_set_self hl] at hj
        cases hj
        exact h'.2.2 (j, v) List.mem_cons_self
      · rw [List.getElem?_eq_none (by rw [List.length_set]; omega)] at hj
        cases hj
    · rw [List.getElem?_set_ne (fun q => hij q.symm)] at hj
      refine h'.2.2 (j, w) (List.mem_cons_of_mem _ (List.mem_filter.mpr ⟨lPairs_mem.mpr hj, ?_⟩))
      by_cases h1 : j + 1 = i
      · have := hp w (by rw [← h1]; exact hj) (by omega)
        simp [hij, hj1, this]
      · simp [hij, hj1, h1]
def lvOf : List Value → LV
  | [] => []
  | v :: vs => if v.category = 2 then some v :: none :: lvOf vs else some v :: lvOf vs
theorem lvOf_mem (k : Nat) : ∀ (vs : List Value) (o i : Nat) (v : Value), (lvOf vs ++ List.replicate k none)[i]? = some (some v) → (o + i, v) ∈ lv_args o vs
  | [], o, i, v, h => by
    simp only [lvOf, List.nil_append] at h
    by_cases hi : i < k
    · rw [List.getElem?_replicate_of_lt hi] at h; cases h
    · rw [List.getElem?_eq_none (by rw [List.length_replicate]; omega)] at h; cases h
  | x :: vs, o, i, v, h => by
    simp only [lvOf] at h
    by_cases hc : x.category = 2
    · rw [if_pos hc] at h
      match i, h with
      | 0, h => simp only [List.cons_append, List.getElem?_cons_zero, Option.some.injEq] at h; subst h; exact List.mem_cons_self
      | 1, h => simp at h
      | i + 2, h =>
        have h2 := lvOf_mem k vs (o + 2) i v (by simpa using h)
        simp only [lv_args, if_pos hc]
        rw [show o + (i + 2) = o + 2 + i by omega]
        exact List.mem_cons_of_mem _ h2
    · rw [if_neg hc] at h
      match i, h with
      | 0, h => simp only [List.cons_append, List.getElem?_cons_zero, Option.some.injEq] at h; subst h; exact List.mem_cons_self
      | i + 1, h =>
        have h2 := lvOf_mem k vs (o + 1) i v (by simpa using h)
        simp only [lv_args, if_neg hc]
        rw [show o + (i + 1) = o + 1 + i by omega]
        exact List.mem_cons_of_mem _ h2
/-- what a walk of a method stands on -/
def Cx (l : Launch) (g : GW) (p : Program) (s : State) (m : MethodId) (args : Array Value) (meth : Method) (c : Code) (A : Nat → Prop) (cc : ByteArray) (nL : Nat) (own : String) : Prop :=
  p.tables.exec = Jvm.exec ∧ c.code = cc ∧ c.maxLocals = nL ∧ s.vm.findClass own = some m.cls ∧ (∀ w ∈ TW, w.before args s = true) ∧ Gl g A s s.heap ∧ (∀ q, s.heap.size ≤ q → A q) ∧ meth.locks = false ∧ l.stackTraces = false
/-- from this abstract frame the machine comes to Q -/
def AW (l : Launch) (g : GW) (p : Program) (e : Env) (R : Room) (s : State) (m : MethodId) (args : Array Value) (below : List Frame) (meth : Method) (c : Code) (A : Nat → Prop) (nL : Nat) (Q : State → Prop) (ad : AD) (τ : RH) (cells slots pc : Nat) (lv : LV) (st : List Value) : Prop :=
  ∀ (H : Heap) (locs : List Loc) (ls : Array Slot), aH g ad τ H → aIn ad τ A → va_S A s.heap H locs → lH ls nL lv → W p l e R s m args below meth c H locs cells slots Q (F0 m pc ls st)
/-- .. with the exception of class E thrown over this frame -/
def AX (l : Launch) (g : GW) (p : Program) (e : Env) (R : Room) (s : State) (m : MethodId) (args : Array Value) (below : List Frame) (meth : Method) (c : Code) (A : Nat → Prop) (nL : Nat) (Q : State → Prop) (ad : AD) (τ : RH) (cells slots pc : Nat) (lv : LV) (E : String) : Prop :=
  ∀ (H : Heap) (locs : List Loc) (ls : Array Slot) (ce : Cell) (q : Nat) (rest : List Value), aH g ad τ H → aIn ad τ A → va_S A s.heap H locs → lH ls nL lv → H[q]? = some ce → ce.vm = .none → s.vm.findClass E = some ce.cls → vx_W p l e R s m args below meth c H locs cells slots Q (F0 m pc ls rest) q
def aQ (g : GW) (P : Option Value → AD → RH → Prop) (A : Nat → Prop) : Array Value → State → Outcome → State → Prop := fun _ st oc t => (∃ v ad τ, oc = .returned v ∧ P v ad τ ∧ aH g ad τ t.heap ∧ aIn ad τ A) ∧ va_F A st t
def aX (g : GW) (X : String → AD → RH → Prop) (A : Nat → Prop) : String → State → State → Prop := fun E st t => (∃ ad τ, X E ad τ ∧ aH g ad τ t.heap ∧ aIn ad τ A) ∧ va_F A st t
def aPc (g : GW) (As : List Value) (ad : AD) (τ : RH) (sz : Nat) : Array Value → State → Prop := va_Pc As (fun U => U.heap.size = sz ∧ aH g ad τ U.heap ∧ Gl g (aA ad τ sz) U U.heap)
/-- A CONTRACT: on the heap τ at the addresses ad the method y returns with P, or throws with X -/
def Sp (l : Launch) (g : GW) (y : MethodName) (cw : Cond) (rm : Room) (As : List Value) (ad : AD) (τ : RH) (mc ms : Nat) (P : Option Value → AD → RH → Prop) (X : String → AD → RH → Prop) : Prop :=
  l.stackTraces = false → ∀ sz, vx_Met l y (cw :: TW) rm (aPc g As ad τ sz) (aQ g P (aA ad τ sz)) (aX g X (aA ad τ sz)) mc ms (aA ad τ sz)
theorem Sp.of {l : Launch} {g : GW} {y : MethodName} {cc : ByteArray} {maxL : Nat} {ret : Option FieldType} {rm : Room} {As : List Value} {ad : AD} {τ : RH} {mc ms : Nat} {P : Option Value → AD → RH → Prop} {X : String → AD → RH → Prop} (k : Nat) (lv0 : LV)
    (hy : plainName y.cls = true) (hcl : (lg_sl As).length ≤ maxL) (hlv : lvOf As ++ List.replicate k none = lv0)
    (body : ∀ p e s m args below meth c A, Cx l g p s m args meth c A cc maxL y.cls → (∀ x ∈ c.exceptionTable.toList, False) → meth.sig.returnType = ret → meth.name = y.name →
      AW l g p e rm s m args below meth c A maxL (vx_MQ below (aQ g P A) (aX g X A) args s mc ms A) ad τ 0 0 0 lv0 []) : Sp l g y (.code y cc maxL ret) rm As ad τ mc ms P X := by
  intro hl sz
  refine vx_ofW (cc := cc) (maxL := maxL) (ret := ret) hy rfl ?_
  intro p e s m args below meth c s₁ B hml htab hv
  obtain ⟨rfl, rfl, hH, hG⟩ := hv
  have hts := atoms_spec (ws := .code y cc maxL ret :: TW) B.pre
  have cx : Cx l g p s m As.toArray meth c (aA ad τ s.heap.size) cc maxL y.cls := ⟨B.exec, B.bytes, hml, findClass_of_methodNamed B.named, fun w hw => hts w (List.mem_cons_of_mem _ hw), hG, fun q h => Or.inr h, B.notSynchronized, hl⟩
  have hb := body p e s m As.toArray below meth c _ cx htab B.returns (name_of_methodNamed B.named B.method).1
  have hlx := lv_entry As (n := maxL) hcl
  rw [lg_entry_eq]
  exact hb s.heap [] _ hH (fun r e h => Or.inl ⟨r, e, h, rfl⟩) va_S.rf ⟨hlx.1, hlx.2.1, fun i v h => by
    have h2 := lvOf_mem k As 0 i v (by rw [hlv]; exact h)
    rw [Nat.zero_add] at h2
    exact hlx.2.2 (i, v) h2⟩
theorem Sp.ofH {l : Launch} {g : GW} {y : MethodName} {cc : ByteArray} {maxL : Nat} {ret : Option FieldType} {hh : List (Nat × Nat × Nat × Nat)} {rm : Room} {As : List Value} {ad : AD} {τ : RH} {mc ms : Nat} {P : Option Value → AD → RH → Prop} {X : String → AD → RH → Prop} (k : Nat) (lv0 : LV)
    (hy : plainName y.cls = true) (hcl : (lg_sl As).length ≤ maxL) (hlv : lvOf As ++ List.replicate k none = lv0)
    (body : ∀ p e s m args below meth c A, Cx l g p s m args meth c A cc maxL y.cls → c.exceptionTable.toList = tableOf hh → meth.sig.returnType = ret →
      AW l g p e rm s m args below meth c A maxL (vx_MQ below (aQ g P A) (aX g X A) args s mc ms A) ad τ 0 0 0 lv0 []) : Sp l g y (.codeWith y cc maxL ret hh) rm As ad τ mc ms P X := by
  intro hl sz
  refine vx_ofWH (cc := cc) (maxL := maxL) (ret := ret) (hh := hh) hy rfl ?_
  intro p e s m args below meth c s₁ B hml hv
  obtain ⟨rfl, rfl, hH, hG⟩ := hv
  have hts := atoms_spec (ws := .codeWith y cc maxL ret hh :: TW) B.pre
  have cx : Cx l g p s m As.toArray meth c (aA ad τ s.heap.size) cc maxL y.cls := ⟨B.exec, B.bytes, hml, findClass_of_methodNamed B.named, fun w hw => hts w (List.mem_cons_of_mem _ hw), hG, fun q h => Or.inr h, B.notSynchronized, hl⟩
  have hb := body p e s m As.toArray below meth c _ cx (vx_table (x := y) B (hts _ List.mem_cons_self)) B.returns
  have hlx := lv_entry As (n := maxL) hcl
  rw [lg_entry_eq]
  exact hb s.heap [] _ hH (fun r e h => Or.inl ⟨r, e, h, rfl⟩) va_S.rf ⟨hlx.1, hlx.2.1, fun i v h => by
    have h2 := lvOf_mem k As 0 i v (by rw [hlv]; exact h)
    rw [Nat.zero_add] at h2
    exact hlx.2.2 (i, v) h2⟩
section AROWS
variable {l : Launch} {g : GW} {p : Program} {e : Env} {R : Room} {s : State} {m : MethodId} {args : Array Value} {below : List Frame} {meth : Method} {c : Code} {A : Nat → Prop} {cc : ByteArray} {nL : Nat} {own : String} {Q : State → Prop} {ad : AD} {τ : RH} {cells slots pc : Nat} {lv : LV} {st : List Value}
theorem a_wide {k n : Nat} (h1 : cells ≤ k) (h2 : slots ≤ n) (kk : AW l g p e R s m args below meth c A nL Q ad τ k n pc lv st) : AW l g p e R s m args below meth c A nL Q ad τ cells slots pc lv st := fun H locs ls i1 i2 i3 i4 => W.widen h1 h2 (kk H locs ls i1 i2 i3 i4)
theorem a_lv {lv' : LV} (h : ∀ (i : Nat) (v : Value), lv'[i]? = some (some v) → lv[i]? = some (some v)) (kk : AW l g p e R s m args below meth c A nL Q ad τ cells slots pc lv' st) : AW l g p e R s m args below meth c A nL Q ad τ cells slots pc lv st := fun H locs ls i1 i2 i3 i4 => kk H locs ls i1 i2 i3 ⟨i4.1, i4.2.1, fun i v hv => i4.2.2 i v (h i v hv)⟩
/-- two live roles lie at two addresses -/
theorem a_apart (kk : (∀ r r' e1 e2, τ r = some e1 → τ r' = some e2 → (ad r = ad r' ↔ r = r')) → AW l g p e R s m args below meth c A nL Q ad τ cells slots pc lv st) : AW l g p e R s m args below meth c A nL Q ad τ cells slots pc lv st := fun H locs ls i1 i2 i3 i4 => kk (fun r r' e1 e2 h1 h2 => ⟨i1.2 r r' e1 e2 h1 h2, fun q => by rw [q]⟩) H locs ls i1 i2 i3 i4
theorem a_top {P : Value → Prop} {v : Value} (h : P v) (kk : ∀ w, P w → AW l g p e R s m args below meth c A nL Q ad τ cells slots pc lv (w :: st)) : AW l g p e R s m args below meth c A nL Q ad τ cells slots pc lv (v :: st) := kk v h
theorem a_int {x y : Int32} (h : x = y) (kk : AW l g p e R s m args below meth c A nL Q ad τ cells slots pc lv (.int y :: st)) : AW l g p e R s m args below meth c A nL Q ad τ cells slots pc lv (.int x :: st) := by rw [h]; exact kk

theorem a_iconst (cx : Cx l g p s m args meth c A cc nL own) {n : Int} {v : Int32} (d : decode cc pc = .ok (.iconst n, 1)) (hv : Int32.ofInt n = v) (kk : AW l g p e R s m args below meth c A nL Q ad τ cells slots (pc + 1) lv (.int v :: st)) : AW l g p e R s m args below meth c A nL Q ad τ cells slots pc lv st := fun H locs ls i1 i2 i3 i4 => lv_iconst cx.1 cx.2.1 d hv (kk H locs ls i1 i2 i3 i4)
theorem a_bipush (cx : Cx l g p s m args meth c A cc nL own) {n : Int} {v : Int32} (d : decode cc pc = .ok (.bipush n, 2)) (hv : (Int8.ofInt n).toInt32 = v) (kk : AW l g p e R s m args below meth c A nL Q ad τ cells slots (pc + 2) lv (.int v :: st)) : AW l g p e R s m args below meth c A nL Q ad τ cells slots pc lv st := fun H locs ls i1 i2 i3 i4 => lv_bipush cx.1 cx.2.1 d hv (kk H locs ls i1 i2 i3 i4)
theorem a_sipush (cx : Cx l g p s m args meth c A cc nL own) {n : Int} {v : Int32} (d : decode cc pc = .ok (.sipush n, 3)) (hv : (Int16.ofInt n).toInt32 = v) (kk : AW l g p e R s m args below meth c A nL Q ad τ cells slots (pc + 3) lv (.int v :: st)) : AW l g p e R s m args below meth c A nL Q ad τ cells slots pc lv st := fun H locs ls i1 i2 i3 i4 => lv_sipush cx.1 cx.2.1 d hv (kk H locs ls i1 i2 i3 i4)
theorem a_lconst (cx : Cx l g p s m args meth c A cc nL own) {n : Fin 2} {v : Int64} (d : decode cc pc = .ok (.lconst n, 1)) (hv : Int64.ofNat (n : Nat) = v) (kk : AW l g p e R s m args below meth c A nL Q ad τ cells slots (pc + 1) lv (.long v :: st)) : AW l g p e R s m args below meth c A nL Q ad τ cells slots pc lv st := fun H locs ls i1 i2 i3 i4 => lv_lconst cx.1 cx.2.1 d hv (kk H locs ls i1 i2 i3 i4)
theorem a_fconst0 (cx : Cx l g p s m args meth c A cc nL own) (d : decode cc pc = .ok (.fconst 0, 1)) (kk : AW l g p e R s m args below meth c A nL Q ad τ cells slots (pc + 1) lv (.float FP.fconst0 :: st)) : AW l g p e R s m args below meth c A nL Q ad τ cells slots pc lv st := fun H locs ls i1 i2 i3 i4 => lv_fconst0 cx.1 cx.2.1 d (kk H locs ls i1 i2 i3 i4)
theorem a_dconst0 (cx : Cx l g p s m args meth c A cc nL own) (d : decode cc pc = .ok (.dconst 0, 1)) (kk : AW l g p e R s m args below meth c A nL Q ad τ cells slots (pc + 1) lv (.double FP.dconst0 :: st)) : AW l g p e R s m args below meth c A nL Q ad τ cells slots pc lv st := fun H locs ls i1 i2 i3 i4 => lv_dconst0 cx.1 cx.2.1 d (kk H locs ls i1 i2 i3 i4)
theorem a_iload_n (cx : Cx l g p s m args meth c A cc nL own) {k : Fin 4} {i : Nat} {x : Int32} (d : decode cc pc = .ok (.iload_n k, 1)) (hi : (k : Nat) = i) (hl : lv[i]? = some (some (.int x))) (kk : AW l g p e R s m args below meth c A nL Q ad τ cells slots (pc + 1) lv (.int x :: st)) : AW l g p e R s m args below meth c A nL Q ad τ cells slots pc lv st := fun H locs ls i1 i2 i3 i4 => lv_iload_n cx.1 cx.2.1 d hi (i4.2.2 _ _ hl) (kk H locs ls i1 i2 i3 i4)
theorem a_iload (cx : Cx l g p s m args meth c A cc nL own) {i : Nat} {x : Int32} (d : decode cc pc = .ok (.iload i, 2)) (hl : lv[i]? = some (some (.int x))) (kk : AW l g p e R s m args below meth c A nL Q ad τ cells slots (pc + 2) lv (.int x :: st)) : AW l g p e R s m args below meth c A nL Q ad τ cells slots pc lv st := fun H locs ls i1 i2 i3 i4 => lv_iload cx.1 cx.2.1 d (i4.2.2 _ _ hl) (kk H locs ls i1 i2 i3 i4)
theorem a_aload_n (cx : Cx l g p s m args meth c A cc nL own) {k : Fin 4} {i : Nat} {x : Nat} (d : decode cc pc = .ok (.aload_n k, 1)) (hi : (k : Nat) = i) (hl : lv[i]? = some (some (.ref x))) (kk : AW l g p e R s m args below meth c A nL Q ad τ cells slots (pc + 1) lv (.ref x :: st)) : AW l g p e R s m args below meth c A nL Q ad τ cells slots pc lv st := fun H locs ls i1 i2 i3 i4 => lv_aload_n cx.1 cx.2.1 d hi (i4.2.2 _ _ hl) (kk H locs ls i1 i2 i3 i4)
theorem a_aload (cx : Cx l g p s m args meth c A cc nL own) {i : Nat} {x : Nat} (d : decode cc pc = .ok (.aload i, 2)) (hl : lv[i]? = some (some (.ref x))) (kk : AW l g p e R s m args below meth c A nL Q ad τ cells slots (pc + 2) lv (.ref x :: st)) : AW l g p e R s m args below meth c A nL Q ad τ cells slots pc lv st := fun H locs ls i1 i2 i3 i4 => lv_aload cx.1 cx.2.1 d (i4.2.2 _ _ hl) (kk H locs ls i1 i2 i3 i4)
theorem a_fload (cx : Cx l g p s m args meth c A cc nL own) {i : Nat} {x : UInt32} (d : decode cc pc = .ok (.fload i, 2)) (hl : lv[i]? = some (some (.float x))) (kk : AW l g p e R s m args below meth c A nL Q ad τ cells slots (pc + 2) lv (.float x :: st)) : AW l g p e R s m args below meth c A nL Q ad τ cells slots pc lv st := fun H locs ls i1 i2 i3 i4 => lv_fload cx.1 cx.2.1 d (i4.2.2 _ _ hl) (kk H locs ls i1 i2 i3 i4)
theorem a_dload (cx : Cx l g p s m args meth c A cc nL own) {i : Nat} {x : UInt64} (d : decode cc pc = .ok (.dload i, 2)) (hl : lv[i]? = some (some (.double x))) (kk : AW l g p e R s m args below meth c A nL Q ad τ cells slots (pc + 2) lv (.double x :: st)) : AW l g p e R s m args below meth c A nL Q ad τ cells slots pc lv st := fun H locs ls i1 i2 i3 i4 => lv_dload cx.1 cx.2.1 d (i4.2.2 _ _ hl) (kk H locs ls i1 i2 i3 i4)
theorem a_aload_nN (cx : Cx l g p s m args meth c A cc nL own) {k : Fin 4} {i : Nat} (d : decode cc pc = .ok (.aload_n k, 1)) (hi : (k : Nat) = i) (hl : lv[i]? = some (some .null)) (kk : AW l g p e R s m args below meth c A nL Q ad τ cells slots (pc + 1) lv (.null :: st)) : AW l g p e R s m args below meth c A nL Q ad τ cells slots pc lv st := fun H locs ls i1 i2 i3 i4 => lv_aload_nN cx.1 cx.2.1 d hi (i4.2.2 _ _ hl) (kk H locs ls i1 i2 i3 i4)
theorem a_aloadN (cx : Cx l g p s m args meth c A cc nL own) {i : Nat} (d : decode cc pc = .ok (.aload i, 2)) (hl : lv[i]? = some (some .null)) (kk : AW l g p e R s m args below meth c A nL Q ad τ cells slots (pc + 2) lv (.null :: st)) : AW l g p e R s m args below meth c A nL Q ad τ cells slots pc lv st := fun H locs ls i1 i2 i3 i4 => lv_aloadN cx.1 cx.2.1 d (i4.2.2 _ _ hl) (kk H locs ls i1 i2 i3 i4)
theorem a_iadd (cx : Cx l g p s m args meth c A cc nL own) {x y : Int32} (d : decode cc pc = .ok (.iadd, 1)) (kk : AW l g p e R s m args below meth c A nL Q ad τ cells slots (pc + 1) lv (.int (x + y) :: st)) : AW l g p e R s m args below meth c A nL Q ad τ cells slots pc lv (.int y :: .int x :: st) := fun H locs ls i1 i2 i3 i4 => lv_iadd cx.1 cx.2.1 d (kk H locs ls i1 i2 i3 i4)
theorem a_isub (cx : Cx l g p s m args meth c A cc nL own) {x y : Int32} (d : decode cc pc = .ok (.isub, 1)) (kk : AW l g p e R s m args below meth c A nL Q ad τ cells slots (pc + 1) lv (.int (x - y) :: st)) : AW l g p e R s m args below meth c A nL Q ad τ cells slots pc lv (.int y :: .int x :: st) := fun H locs ls i1 i2 i3 i4 => lv_isub cx.1 cx.2.1 d (kk H locs ls i1 i2 i3 i4)
theorem a_imul (cx : Cx l g p s m args meth c A cc nL own) {x y : Int32} (d : decode cc pc = .ok (.imul, 1)) (kk : AW l g p e R s m args below meth c A nL Q ad τ cells slots (pc + 1) lv (.int (x * y) :: st)) : AW l g p e R s m args below meth c A nL Q ad τ cells slots pc lv (.int y :: .int x :: st) := fun H locs ls i1 i2 i3 i4 => lv_imul cx.1 cx.2.1 d (kk H locs ls i1 i2 i3 i4)
theorem a_iand (cx : Cx l g p s m args meth c A cc nL own) {x y : Int32} (d : decode cc pc = .ok (.iand, 1)) (kk : AW l g p e R s m args below meth c A nL Q ad τ cells slots (pc + 1) lv (.int (x &&& y) :: st)) : AW l g p e R s m args below meth c A nL Q ad τ cells slots pc lv (.int y :: .int x :: st) := fun H locs ls i1 i2 i3 i4 => lv_iand cx.1 cx.2.1 d (kk H locs ls i1 i2 i3 i4)
theorem a_ishr (cx : Cx l g p s m args meth c A cc nL own) {x y : Int32} (d : decode cc pc = .ok (.ishr, 1)) (kk : AW l g p e R s m args below meth c A nL Q ad τ cells slots (pc + 1) lv (.int (x >>> (y &&& 31)) :: st)) : AW l g p e R s m args below meth c A nL Q ad τ cells slots pc lv (.int y :: .int x :: st) := fun H locs ls i1 i2 i3 i4 => lv_ishr cx.1 cx.2.1 d (kk H locs ls i1 i2 i3 i4)
theorem a_i2l (cx : Cx l g p s m args meth c A cc nL own) {x : Int32} (d : decode cc pc = .ok (.i2l, 1)) (kk : AW l g p e R s m args below meth c A nL Q ad τ cells slots (pc + 1) lv (.long x.toInt64 :: st)) : AW l g p e R s m args below meth c A nL Q ad τ cells slots pc lv (.int x :: st) := fun H locs ls i1 i2 i3 i4 => lv_i2l cx.1 cx.2.1 d rfl (kk H locs ls i1 i2 i3 i4)
theorem a_i2c (cx : Cx l g p s m args meth c A cc nL own) {x v : Int32} (d : decode cc pc = .ok (.i2c, 1)) (hv : (x.toUInt32 % 65536).toInt32 = v) (kk : AW l g p e R s m args below meth c A nL Q ad τ cells slots (pc + 1) lv (.int v :: st)) : AW l g p e R s m args below meth c A nL Q ad τ cells slots pc lv (.int x :: st) := fun H locs ls i1 i2 i3 i4 => lv_i2c cx.1 cx.2.1 d hv (kk H locs ls i1 i2 i3 i4)
theorem a_i2f (cx : Cx l g p s m args meth c A cc nL own) {x : Int32} (d : decode cc pc = .ok (.i2f, 1)) (kk : AW l g p e R s m args below meth c A nL Q ad τ cells slots (pc + 1) lv (.float (FP.i2f x) :: st)) : AW l g p e R s m args below meth c A nL Q ad τ cells slots pc lv (.int x :: st) := fun H locs ls i1 i2 i3 i4 => lv_i2f cx.1 cx.2.1 d (kk H locs ls i1 i2 i3 i4)
theorem a_i2d (cx : Cx l g p s m args meth c A cc nL own) {x : Int32} (d : decode cc pc = .ok (.i2d, 1)) (kk : AW l g p e R s m args below meth c A nL Q ad τ cells slots (pc + 1) lv (.double (FP.i2d x) :: st)) : AW l g p e R s m args below meth c A nL Q ad τ cells slots pc lv (.int x :: st) := fun H locs ls i1 i2 i3 i4 => lv_i2d cx.1 cx.2.1 d (kk H locs ls i1 i2 i3 i4)
theorem a_f2d (cx : Cx l g p s m args meth c A cc nL own) {x : UInt32} (d : decode cc pc = .ok (.f2d, 1)) (hn : vf_n64 (FP.f2d x)) (kk : AW l g p e R s m args below meth c A nL Q ad τ cells slots (pc + 1) lv (.double (FP.f2d x) :: st)) : AW l g p e R s m args below meth c A nL Q ad τ cells slots pc lv (.float x :: st) := fun H locs ls i1 i2 i3 i4 => lv_f2d cx.1 cx.2.1 d hn (kk H locs ls i1 i2 i3 i4)
theorem a_fdiv (cx : Cx l g p s m args meth c A cc nL own) {x y : UInt32} (d : decode cc pc = .ok (.fdiv, 1)) (hn : vf_n32 (FP.fdiv x y)) (kk : AW l g p e R s m args below meth c A nL Q ad τ cells slots (pc + 1) lv (.float (FP.fdiv x y) :: st)) : AW l g p e R s m args below meth c A nL Q ad τ cells slots pc lv (.float y :: .float x :: st) := fun H locs ls i1 i2 i3 i4 => lv_fdiv cx.1 cx.2.1 d hn (kk H locs ls i1 i2 i3 i4)
theorem a_ddiv (cx : Cx l g p s m args meth c A cc nL own) {x y : UInt64} (d : decode cc pc = .ok (.ddiv, 1)) (hn : vf_n64 (FP.ddiv x y)) (kk : AW l g p e R s m args below meth c A nL Q ad τ cells slots (pc + 1) lv (.double (FP.ddiv x y) :: st)) : AW l g p e R s m args below meth c A nL Q ad τ cells slots pc lv (.double y :: .double x :: st) := fun H locs ls i1 i2 i3 i4 => lv_ddiv cx.1 cx.2.1 d hn (kk H locs ls i1 i2 i3 i4)
theorem a_fcmp (cx : Cx l g p s m args meth c A cc nL own) {x y : UInt32} {op : CmpOp} (d : decode cc pc = .ok (.fcmp op, 1)) (kk : AW l g p e R s m args below meth c A nL Q ad τ cells slots (pc + 1) lv (.int (Op.cmpValue (FP.fcmp x y) op) :: st)) : AW l g p e R s m args below meth c A nL Q ad τ cells slots pc lv (.float y :: .float x :: st) := fun H locs ls i1 i2 i3 i4 => lv_fcmp cx.1 cx.2.1 d (kk H locs ls i1 i2 i3 i4)
theorem a_dcmp (cx : Cx l g p s m args meth c A cc nL own) {x y : UInt64} {op : CmpOp} (d : decode cc pc = .ok (.dcmp op, 1)) (kk : AW l g p e R s m args below meth c A nL Q ad τ cells slots (pc + 1) lv (.int (Op.cmpValue (FP.dcmp x y) op) :: st)) : AW l g p e R s m args below meth c A nL Q ad τ cells slots pc lv (.double y :: .double x :: st) := fun H locs ls i1 i2 i3 i4 => lv_dcmp cx.1 cx.2.1 d (kk H locs ls i1 i2 i3 i4)
theorem a_lcmp (cx : Cx l g p s m args meth c A cc nL own) {x y : Int64} (d : decode cc pc = .ok (.lcmp, 1)) (kk : AW l g p e R s m args below meth c A nL Q ad τ cells slots (pc + 1) lv (.int (lg_cmp x y) :: st)) : AW l g p e R s m args below meth c A nL Q ad τ cells slots pc lv (.long y :: .long x :: st) := fun H locs ls i1 i2 i3 i4 => W.lcmp cx.1 cx.2.1 d (kk H locs ls i1 i2 i3 i4)
theorem a_dup (cx : Cx l g p s m args meth c A cc nL own) {va : Value} (d : decode cc pc = .ok (.dup, 1)) (h1 : va.category = 1) (kk : AW l g p e R s m args below meth c A nL Q ad τ cells slots (pc + 1) lv (va :: va :: st)) : AW l g p e R s m args below meth c A nL Q ad τ cells slots pc lv (va :: st) := fun H locs ls i1 i2 i3 i4 => lv_dup cx.1 cx.2.1 d h1 (kk H locs ls i1 i2 i3 i4)
theorem a_pop (cx : Cx l g p s m args meth c A cc nL own) {va : Value} (d : decode cc pc = .ok (.pop, 1)) (h1 : va.category = 1) (kk : AW l g p e R s m args below meth c A nL Q ad τ cells slots (pc + 1) lv st) : AW l g p e R s m args below meth c A nL Q ad τ cells slots pc lv (va :: st) := fun H locs ls i1 i2 i3 i4 => lv_pop cx.1 cx.2.1 d h1 (kk H locs ls i1 i2 i3 i4)
theorem a_dup2 (cx : Cx l g p s m args meth c A cc nL own) {va vb : Value} (d : decode cc pc = .ok (.dup2, 1)) (h1 : va.category = 1) (h2 : vb.category = 1) (kk : AW l g p e R s m args below meth c A nL Q ad τ cells slots (pc + 1) lv (va :: vb :: va :: vb :: st)) : AW l g p e R s m args below meth c A nL Q ad τ cells slots pc lv (va :: vb :: st) := fun H locs ls i1 i2 i3 i4 => lv_dup2_11 cx.1 cx.2.1 d h1 h2 (kk H locs ls i1 i2 i3 i4)
theorem a_dup_x1 (cx : Cx l g p s m args meth c A cc nL own) {va vb : Value} (d : decode cc pc = .ok (.dup_x1, 1)) (h1 : va.category = 1) (h2 : vb.category = 1) (kk : AW l g p e R s m args below meth c A nL Q ad τ cells slots (pc + 1) lv (va :: vb :: va :: st)) : AW l g p e R s m args below meth c A nL Q ad τ cells slots pc lv (va :: vb :: st) := fun H locs ls i1 i2 i3 i4 => lv_dup_x1 cx.1 cx.2.1 d h1 h2 (kk H locs ls i1 i2 i3 i4)
theorem a_null (cx : Cx l g p s m args meth c A cc nL own) (d : decode cc pc = .ok (.aconst_null, 1)) (kk : AW l g p e R s m args below meth c A nL Q ad τ cells slots (pc + 1) lv (.null :: st)) : AW l g p e R s m args below meth c A nL Q ad τ cells slots pc lv st := fun H locs ls i1 i2 i3 i4 => lv_null cx.1 cx.2.1 d (kk H locs ls i1 i2 i3 i4)
theorem a_castN (cx : Cx l g p s m args meth c A cc nL own) {index : Nat} (d : decode cc pc = .ok (.checkcast index, 3)) (kk : AW l g p e R s m args below meth c A nL Q ad τ cells slots (pc + 3) lv (.null :: st)) : AW l g p e R s m args below meth c A nL Q ad τ cells slots pc lv (.null :: st) := fun H locs ls i1 i2 i3 i4 => lv_castN cx.1 cx.2.1 d (kk H locs ls i1 i2 i3 i4)
theorem a_ifnullR (cx : Cx l g p s m args meth c A cc nL own) {x : Nat} {off : Int} (d : decode cc pc = .ok (.ifnull off, 3)) (kk : AW l g p e R s m args below meth c A nL Q ad τ cells slots (pc + 3) lv st) : AW l g p e R s m args below meth c A nL Q ad τ cells slots pc lv (.ref x :: st) := fun H locs ls i1 i2 i3 i4 => lv_ifnull cx.1 cx.2.1 d (kk H locs ls i1 i2 i3 i4)
theorem a_ifnonnullN (cx : Cx l g p s m args meth c A cc nL own) {off : Int} (d : decode cc pc = .ok (.ifnonnull off, 3)) (kk : AW l g p e R s m args below meth c A nL Q ad τ cells slots (pc + 3) lv st) : AW l g p e R s m args below meth c A nL Q ad τ cells slots pc lv (.null :: st) := fun H locs ls i1 i2 i3 i4 => lv_ifnonnullN cx.1 cx.2.1 d (kk H locs ls i1 i2 i3 i4)
theorem a_goto (cx : Cx l g p s m args meth c A cc nL own)  {off : Int} {tgt : Nat} (d : decode cc pc = .ok (.goto off, 3)) (ht : (pc : Int) + off = (tgt : Int)) (kk : AW l g p e R s m args below meth c A nL Q ad τ cells slots tgt lv st) : AW l g p e R s m args below meth c A nL Q ad τ cells slots pc lv st := fun H locs ls i1 i2 i3 i4 => lv_goto cx.1 cx.2.1 d ht (kk H locs ls i1 i2 i3 i4)
theorem a_ifnonnullR (cx : Cx l g p s m args meth c A cc nL own) {x : Nat} {off : Int} {tgt : Nat} (d : decode cc pc = .ok (.ifnonnull off, 3)) (ht : (pc : Int) + off = (tgt : Int)) (kk : AW l g p e R s m args below meth c A nL Q ad τ cells slots tgt lv st) : AW l g p e R s m args below meth c A nL Q ad τ cells slots pc lv (.ref x :: st) := fun H locs ls i1 i2 i3 i4 => lv_ifnonnull cx.1 cx.2.1 d ht (kk H locs ls i1 i2 i3 i4)
theorem a_ifnullN (cx : Cx l g p s m args meth c A cc nL own)  {off : Int} {tgt : Nat} (d : decode cc pc = .ok (.ifnull off, 3)) (ht : (pc : Int) + off = (tgt : Int)) (kk : AW l g p e R s m args below meth c A nL Q ad τ cells slots tgt lv st) : AW l g p e R s m args below meth c A nL Q ad τ cells slots pc lv (.null :: st) := fun H locs ls i1 i2 i3 i4 => lv_ifnullN cx.1 cx.2.1 d ht (kk H locs ls i1 i2 i3 i4)
theorem a_if_eq (cx : Cx l g p s m args meth c A cc nL own) {x : Int32} {off : Int} {tgt : Nat} (d : decode cc pc = .ok (.ifCond .eq off, 3)) (ht : (pc : Int) + off = (tgt : Int)) (kt : x = 0 → AW l g p e R s m args below meth c A nL Q ad τ cells slots tgt lv st) (kf : ¬ x = 0 → AW l g p e R s m args below meth c A nL Q ad τ cells slots (pc + 3) lv st) : AW l g p e R s m args below meth c A nL Q ad τ cells slots pc lv (.int x :: st) := fun H locs ls i1 i2 i3 i4 => lv_if_eq cx.1 cx.2.1 d ht (fun h => kt h H locs ls i1 i2 i3 i4) (fun h => kf h H locs ls i1 i2 i3 i4)
theorem a_icmp_eq (cx : Cx l g p s m args meth c A cc nL own) {x y : Int32} {off : Int} {tgt : Nat} (d : decode cc pc = .ok (.if_icmp .eq off, 3)) (ht : (pc : Int) + off = (tgt : Int)) (kt : x = y → AW l g p e R s m args below meth c A nL Q ad τ cells slots tgt lv st) (kf : ¬ x = y → AW l g p e R s m args below meth c A nL Q ad τ cells slots (pc + 3) lv st) : AW l g p e R s m args below meth c A nL Q ad τ cells slots pc lv (.int y :: .int x :: st) := fun H locs ls i1 i2 i3 i4 => lv_icmp_eq cx.1 cx.2.1 d ht (fun h => kt h H locs ls i1 i2 i3 i4) (fun h => kf h H locs ls i1 i2 i3 i4)
theorem a_if_ne (cx : Cx l g p s m args meth c A cc nL own) {x : Int32} {off : Int} {tgt : Nat} (d : decode cc pc = .ok (.ifCond .ne off, 3)) (ht : (pc : Int) + off = (tgt : Int)) (kt : ¬ x = 0 → AW l g p e R s m args below meth c A nL Q ad τ cells slots tgt lv st) (kf : x = 0 → AW l g p e R s m args below meth c A nL Q ad τ cells slots (pc + 3) lv st) : AW l g p e R s m args below meth c A nL Q ad τ cells slots pc lv (.int x :: st) := fun H locs ls i1 i2 i3 i4 => lv_if_ne cx.1 cx.2.1 d ht (fun h => kt h H locs ls i1 i2 i3 i4) (fun h => kf h H locs ls i1 i2 i3 i4)
theorem a_icmp_ne (cx : Cx l g p s m args meth c A cc nL own) {x y : Int32} {off : Int} {tgt : Nat} (d : decode cc pc = .ok (.if_icmp .ne off, 3)) (ht : (pc : Int) + off = (tgt : Int)) (kt : ¬ x = y → AW l g p e R s m args below meth c A nL Q ad τ cells slots tgt lv st) (kf : x = y → AW l g p e R s m args below meth c A nL Q ad τ cells slots (pc + 3) lv st) : AW l g p e R s m args below meth c A nL Q ad τ cells slots pc lv (.int y :: .int x :: st) := fun H locs ls i1 i2 i3 i4 => lv_icmp_ne cx.1 cx.2.1 d ht (fun h => kt h H locs ls i1 i2 i3 i4) (fun h => kf h H locs ls i1 i2 i3 i4)
theorem a_if_lt (cx : Cx l g p s m args meth c A cc nL own) {x : Int32} {off : Int} {tgt : Nat} (d : decode cc pc = .ok (.ifCond .lt off, 3)) (ht : (pc : Int) + off = (tgt : Int)) (kt : x < 0 → AW l g p e R s m args below meth c A nL Q ad τ cells slots tgt lv st) (kf : ¬ x < 0 → AW l g p e R s m args below meth c A nL Q ad τ cells slots (pc + 3) lv st) : AW l g p e R s m args below meth c A nL Q ad τ cells slots pc lv (.int x :: st) := fun H locs ls i1 i2 i3 i4 => lv_if_lt cx.1 cx.2.1 d ht (fun h => kt h H locs ls i1 i2 i3 i4) (fun h => kf h H locs ls i1 i2 i3 i4)
theorem a_icmp_lt (cx : Cx l g p s m args meth c A cc nL own) {x y : Int32} {off : Int} {tgt : Nat} (d : decode cc pc = .ok (.if_icmp .lt off, 3)) (ht : (pc : Int) + off = (tgt : Int)) (kt : x < y → AW l g p e R s m args below meth c A nL Q ad τ cells slots tgt lv st) (kf : ¬ x < y → AW l g p e R s m args below meth c A nL Q ad τ cells slots (pc + 3) lv st) : AW l g p e R s m args below meth c A nL Q ad τ cells slots pc lv (.int y :: .int x :: st) := fun H locs ls i1 i2 i3 i4 => lv_icmp_lt cx.1 cx.2.1 d ht (fun h => kt h H locs ls i1 i2 i3 i4) (fun h => kf h H locs ls i1 i2 i3 i4)
theorem a_if_ge (cx : Cx l g p s m args meth c A cc nL own) {x : Int32} {off : Int} {tgt : Nat} (d : decode cc pc = .ok (.ifCond .ge off, 3)) (ht : (pc : Int) + off = (tgt : Int)) (kt : 0 ≤ x → AW l g p e R s m args below meth c A nL Q ad τ cells slots tgt lv st) (kf : ¬ 0 ≤ x → AW l g p e R s m args below meth c A nL Q ad τ cells slots (pc + 3) lv st) : AW l g p e R s m args below meth c A nL Q ad τ cells slots pc lv (.int x :: st) := fun H locs ls i1 i2 i3 i4 => lv_if_ge cx.1 cx.2.1 d ht (fun h => kt h H locs ls i1 i2 i3 i4) (fun h => kf h H locs ls i1 i2 i3 i4)
theorem a_icmp_ge (cx : Cx l g p s m args meth c A cc nL own) {x y : Int32} {off : Int} {tgt : Nat} (d : decode cc pc = .ok (.if_icmp .ge off, 3)) (ht : (pc : Int) + off = (tgt : Int)) (kt : y ≤ x → AW l g p e R s m args below meth c A nL Q ad τ cells slots tgt lv st) (kf : ¬ y ≤ x → AW l g p e R s m args below meth c A nL Q ad τ cells slots (pc + 3) lv st) : AW l g p e R s m args below meth c A nL Q ad τ cells slots pc lv (.int y :: .int x :: st) := fun H locs ls i1 i2 i3 i4 => lv_icmp_ge cx.1 cx.2.1 d ht (fun h => kt h H locs ls i1 i2 i3 i4) (fun h => kf h H locs ls i1 i2 i3 i4)
theorem a_if_gt (cx : Cx l g p s m args meth c A cc nL own) {x : Int32} {off : Int} {tgt : Nat} (d : decode cc pc = .ok (.ifCond .gt off, 3)) (ht : (pc : Int) + off = (tgt : Int)) (kt : 0 < x → AW l g p e R s m args below meth c A nL Q ad τ cells slots tgt lv st) (kf : ¬ 0 < x → AW l g p e R s m args below meth c A nL Q ad τ cells slots (pc + 3) lv st) : AW l g p e R s m args below meth c A nL Q ad τ cells slots pc lv (.int x :: st) := fun H locs ls i1 i2 i3 i4 => lv_if_gt cx.1 cx.2.1 d ht (fun h => kt h H locs ls i1 i2 i3 i4) (fun h => kf h H locs ls i1 i2 i3 i4)
theorem a_icmp_gt (cx : Cx l g p s m args meth c A cc nL own) {x y : Int32} {off : Int} {tgt : Nat} (d : decode cc pc = .ok (.if_icmp .gt off, 3)) (ht : (pc : Int) + off = (tgt : Int)) (kt : y < x → AW l g p e R s m args below meth c A nL Q ad τ cells slots tgt lv st) (kf : ¬ y < x → AW l g p e R s m args below meth c A nL Q ad τ cells slots (pc + 3) lv st) : AW l g p e R s m args below meth c A nL Q ad τ cells slots pc lv (.int y :: .int x :: st) := fun H locs ls i1 i2 i3 i4 => lv_icmp_gt cx.1 cx.2.1 d ht (fun h => kt h H locs ls i1 i2 i3 i4) (fun h => kf h H locs ls i1 i2 i3 i4)
theorem a_if_le (cx : Cx l g p s m args meth c A cc nL own) {x : Int32} {off : Int} {tgt : Nat} (d : decode cc pc = .ok (.ifCond .le off, 3)) (ht : (pc : Int) + off = (tgt : Int)) (kt : x ≤ 0 → AW l g p e R s m args below meth c A nL Q ad τ cells slots tgt lv st) (kf : ¬ x ≤ 0 → AW l g p e R s m args below meth c A nL Q ad τ cells slots (pc + 3) lv st) : AW l g p e R s m args below meth c A nL Q ad τ cells slots pc lv (.int x :: st) := fun H locs ls i1 i2 i3 i4 => lv_if_le cx.1 cx.2.1 d ht (fun h => kt h H locs ls i1 i2 i3 i4) (fun h => kf h H locs ls i1 i2 i3 i4)
theorem a_icmp_le (cx : Cx l g p s m args meth c A cc nL own) {x y : Int32} {off : Int} {tgt : Nat} (d : decode cc pc = .ok (.if_icmp .le off, 3)) (ht : (pc : Int) + off = (tgt : Int)) (kt : x ≤ y → AW l g p e R s m args below meth c A nL Q ad τ cells slots tgt lv st) (kf : ¬ x ≤ y → AW l g p e R s m args below meth c A nL Q ad τ cells slots (pc + 3) lv st) : AW l g p e R s m args below meth c A nL Q ad τ cells slots pc lv (.int y :: .int x :: st) := fun H locs ls i1 i2 i3 i4 => lv_icmp_le cx.1 cx.2.1 d ht (fun h => kt h H locs ls i1 i2 i3 i4) (fun h => kf h H locs ls i1 i2 i3 i4)
theorem a_acmp_eq (cx : Cx l g p s m args meth c A cc nL own) {x y : Nat} {off : Int} {tgt : Nat} (d : decode cc pc = .ok (.if_acmp .eq off, 3)) (ht : (pc : Int) + off = (tgt : Int)) (kt : x = y → AW l g p e R s m args below meth c A nL Q ad τ cells slots tgt lv st) (kf : ¬ x = y → AW l g p e R s m args below meth c A nL Q ad τ cells slots (pc + 3) lv st) : AW l g p e R s m args below meth c A nL Q ad τ cells slots pc lv (.ref y :: .ref x :: st) := fun H locs ls i1 i2 i3 i4 => lv_acmp_eq (rx := some x) (ry := some y) cx.1 cx.2.1 d ht (fun h => kt (Option.some.inj h) H locs ls i1 i2 i3 i4) (fun h => kf (fun q => h (by rw [q])) H locs ls i1 i2 i3 i4)
theorem a_acmp_ne (cx : Cx l g p s m args meth c A cc nL own) {x y : Nat} {off : Int} {tgt : Nat} (d : decode cc pc = .ok (.if_acmp .ne off, 3)) (ht : (pc : Int) + off = (tgt : Int)) (kt : ¬ x = y → AW l g p e R s m args below meth c A nL Q ad τ cells slots tgt lv st) (kf : x = y → AW l g p e R s m args below meth c A nL Q ad τ cells slots (pc + 3) lv st) : AW l g p e R s m args below meth c A nL Q ad τ cells slots pc lv (.ref y :: .ref x :: st) := fun H locs ls i1 i2 i3 i4 => lv_acmp_ne (rx := some x) (ry := some y) cx.1 cx.2.1 d ht (fun h => kt (fun q => h (by rw [q])) H locs ls i1 i2 i3 i4) (fun h => kf (Option.some.inj h) H locs ls i1 i2 i3 i4)
theorem a_istore_n0 (cx : Cx l g p s m args meth c A cc nL own) {k : Fin 4} {x : Int32} {a0 : Option Value} (d : decode cc pc = .ok (.istore_n k, 1)) (hi : (k : Nat) = 0) (hn : 0 < nL) (kk : AW l g p e R s m args below meth c A nL Q ad τ cells slots (pc + 1) (some (.int x) :: lv) st) : AW l g p e R s m args below meth c A nL Q ad τ cells slots pc (a0 :: lv) (.int x :: st) := fun H locs ls i1 i2 i3 i4 => lv_istore_n cx.1 cx.2.1 d hi i4.has hn rfl (fun ls9 hl9 => kk H locs ls9 i1 i2 i3 (lH.set1 (lv := a0 :: lv) (fun w h q => absurd q (by decide)) hl9))
theorem a_istore0 (cx : Cx l g p s m args meth c A cc nL own) {x : Int32} {a0 : Option Value} (d : decode cc pc = .ok (.istore 0, 2)) (hn : 0 < nL) (kk : AW l g p e R s m args below meth c A nL Q ad τ cells slots (pc + 2) (some (.int x) :: lv) st) : AW l g p e R s m args below meth c A nL Q ad τ cells slots pc (a0 :: lv) (.int x :: st) := fun H locs ls i1 i2 i3 i4 => lv_istore cx.1 cx.2.1 d i4.has hn rfl (fun ls9 hl9 => kk H locs ls9 i1 i2 i3 (lH.set1 (lv := a0 :: lv) (fun w h q => absurd q (by decide)) hl9))
theorem a_istore_n1 (cx : Cx l g p s m args meth c A cc nL own) {k : Fin 4} {x : Int32} {a0 a1 : Option Value} (d : decode cc pc = .ok (.istore_n k, 1)) (hi : (k : Nat) = 1) (hn : 1 < nL) (hp : ∀ w, a0 = some w → w.category = 1) (kk : AW l g p e R s m args below meth c A nL Q ad τ cells slots (pc + 1) (a0 :: some (.int x) :: lv) st) : AW l g p e R s m args below meth c A nL Q ad τ cells slots pc (a0 :: a1 :: lv) (.int x :: st) := fun H locs ls i1 i2 i3 i4 => lv_istore_n cx.1 cx.2.1 d hi i4.has hn rfl (fun ls9 hl9 => kk H locs ls9 i1 i2 i3 (lH.set1 (lv := a0 :: a1 :: lv) (fun w h _ => hp w (by simpa using h)) hl9))
theorem a_istore1 (cx : Cx l g p s m args meth c A cc nL own) {x : Int32} {a0 a1 : Option Value} (d : decode cc pc = .ok (.istore 1, 2)) (hn : 1 < nL) (hp : ∀ w, a0 = some w → w.category = 1) (kk : AW l g p e R s m args below meth c A nL Q ad τ cells slots (pc + 2) (a0 :: some (.int x) :: lv) st) : AW l g p e R s m args below meth c A nL Q ad τ cells slots pc (a0 :: a1 :: lv) (.int x :: st) := fun H locs ls i1 i2 i3 i4 => lv_istore cx.1 cx.2.1 d i4.has hn rfl (fun ls9 hl9 => kk H locs ls9 i1 i2 i3 (lH.set1 (lv := a0 :: a1 :: lv) (fun w h _ => hp w (by simpa using h)) hl9))
theorem a_istore_n2 (cx : Cx l g p s m args meth c A cc nL own) {k : Fin 4} {x : Int32} {a0 a1 a2 : Option Value} (d : decode cc pc = .ok (.istore_n k, 1)) (hi : (k : Nat) = 2) (hn : 2 < nL) (hp : ∀ w, a1 = some w → w.category = 1) (kk : AW l g p e R s m args below meth c A nL Q ad τ cells slots (pc + 1) (a0 :: a1 :: some (.int x) :: lv) st) : AW l g p e R s m args below meth c A nL Q ad τ cells slots pc (a0 :: a1 :: a2 :: lv) (.int x :: st) := fun H locs ls i1 i2 i3 i4 => lv_istore_n cx.1 cx.2.1 d hi i4.has hn rfl (fun ls9 hl9 => kk H locs ls9 i1 i2 i3 (lH.set1 (lv := a0 :: a1 :: a2 :: lv) (fun w h _ => hp w (by simpa using h)) hl9))
theorem a_istore2 (cx : Cx l g p s m args meth c A cc nL own) {x : Int32} {a0 a1 a2 : Option Value} (d : decode cc pc = .ok (.istore 2, 2)) (hn : 2 < nL) (hp : ∀ w, a1 = some w → w.category = 1) (kk : AW l g p e R s m args below meth c A nL Q ad τ cells slots (pc + 2) (a0 :: a1 :: some (.int x) :: lv) st) : AW l g p e R s m args below meth c A nL Q ad τ cells slots pc (a0 :: a1 :: a2 :: lv) (.int x :: st) := fun H locs ls i1 i2 i3 i4 => lv_istore cx.1 cx.2.1 d i4.has hn rfl (fun ls9 hl9 => kk H locs ls9 i1 i2 i3 (lH.set1 (lv := a0 :: a1 :: a2 :: lv) (fun w h _ => hp w (by simpa using h)) hl9))
theorem a_istore_n3 (cx : Cx l g p s m args meth c A cc nL own) {k : Fin 4} {x : Int32} {a0 a1 a2 a3 : Option Value} (d : decode cc pc = .ok (.istore_n k, 1)) (hi : (k : Nat) = 3) (hn : 3 < nL) (hp : ∀ w, a2 = some w → w.category = 1) (kk : AW l g p e R s m args below meth c A nL Q ad τ cells slots (pc + 1) (a0 :: a1 :: a2 :: some (.int x) :: lv) st) : AW l g p e R s m args below meth c A nL Q ad τ cells slots pc (a0 :: a1 :: a2 :: a3 :: lv) (.int x :: st) := fun H locs ls i1 i2 i3 i4 => lv_istore_n cx.1 cx.2.1 d hi i4.has hn rfl (fun ls9 hl9 => kk H locs ls9 i1 i2 i3 (lH.set1 (lv := a0 :: a1 :: a2 :: a3 :: lv) (fun w h _ => hp w (by simpa using h)) hl9))
theorem a_istore3 (cx : Cx l g p s m args meth c A cc nL own) {x : Int32} {a0 a1 a2 a3 : Option Value} (d : decode cc pc = .ok (.istore 3, 2)) (hn : 3 < nL) (hp : ∀ w, a2 = some w → w.category = 1) (kk : AW l g p e R s m args below meth c A nL Q ad τ cells slots (pc + 2) (a0 :: a1 :: a2 :: some (.int x) :: lv) st) : AW l g p e R s m args below meth c A nL Q ad τ cells slots pc (a0 :: a1 :: a2 :: a3 :: lv) (.int x :: st) := fun H locs ls i1 i2 i3 i4 => lv_istore cx.1 cx.2.1 d i4.has hn rfl (fun ls9 hl9 => kk H locs ls9 i1 i2 i3 (lH.set1 (lv := a0 :: a1 :: a2 :: a3 :: lv) (fun w h _ => hp w (by simpa using h)) hl9))
theorem a_istore4 (cx : Cx l g p s m args meth c A cc nL own) {x : Int32} {a0 a1 a2 a3 a4 : Option Value} (d : decode cc pc = .ok (.istore 4, 2)) (hn : 4 < nL) (hp : ∀ w, a3 = some w → w.category = 1) (kk : AW l g p e R s m args below meth c A nL Q ad τ cells slots (pc + 2) (a0 :: a1 :: a2 :: a3 :: some (.int x) :: lv) st) : AW l g p e R s m args below meth c A nL Q ad τ cells slots pc (a0 :: a1 :: a2 :: a3 :: a4 :: lv) (.int x :: st) := fun H locs ls i1 i2 i3 i4 => lv_istore cx.1 cx.2.1 d i4.has hn rfl (fun ls9 hl9 => kk H locs ls9 i1 i2 i3 (lH.set1 (lv := a0 :: a1 :: a2 :: a3 :: a4 :: lv) (fun w h _ => hp w (by simpa using h)) hl9))
theorem a_istore5 (cx : Cx l g p s m args meth c A cc nL own) {x : Int32} {a0 a1 a2 a3 a4 a5 : Option Value} (d : decode cc pc = .ok (.istore 5, 2)) (hn : 5 < nL) (hp : ∀ w, a4 = some w → w.category = 1) (kk : AW l g p e R s m args below meth c A nL Q ad τ cells slots (pc + 2) (a0 :: a1 :: a2 :: a3 :: a4 :: some (.int x) :: lv) st) : AW l g p e R s m args below meth c A nL Q ad τ cells slots pc (a0 :: a1 :: a2 :: a3 :: a4 :: a5 :: lv) (.int x :: st) := fun H locs ls i1 i2 i3 i4 => lv_istore cx.1 cx.2.1 d i4.has hn rfl (fun ls9 hl9 => kk H locs ls9 i1 i2 i3 (lH.set1 (lv := a0 :: a1 :: a2 :: a3 :: a4 :: a5 :: lv) (fun w h _ => hp w (by simpa using h)) hl9))
theorem a_istore6 (cx : Cx l g p s m args meth c A cc nL own) {x : Int32} {a0 a1 a2 a3 a4 a5 a6 : Option Value} (d : decode cc pc = .ok (.istore 6, 2)) (hn : 6 < nL) (hp : ∀ w, a5 = some w → w.category = 1) (kk : AW l g p e R s m args below meth c A nL Q ad τ cells slots (pc + 2) (a0 :: a1 :: a2 :: a3 :: a4 :: a5 :: some (.int x) :: lv) st) : AW l g p e R s m args below meth c A nL Q ad τ cells slots pc (a0 :: a1 :: a2 :: a3 :: a4 :: a5 :: a6 :: lv) (.int x :: st) := fun H locs ls i1 i2 i3 i4 => lv_istore cx.1 cx.2.1 d i4.has hn rfl (fun ls9 hl9 => kk H locs ls9 i1 i2 i3 (lH.set1 (lv := a0 :: a1 :: a2 :: a3 :: a4 :: a5 :: a6 :: lv) (fun w h _ => hp w (by simpa using h)) hl9))
theorem a_istore7 (cx : Cx l g p s m args meth c A cc nL own) {x : Int32} {a0 a1 a2 a3 a4 a5 a6 a7 : Option Value} (d : decode cc pc = .ok (.istore 7, 2)) (hn : 7 < nL) (hp : ∀ w, a6 = some w → w.category = 1) (kk : AW l g p e R s m args below meth c A nL Q ad τ cells slots (pc + 2) (a0 :: a1 :: a2 :: a3 :: a4 :: a5 :: a6 :: some (.int x) :: lv) st) : AW l g p e R s m args below meth c A nL Q ad τ cells slots pc (a0 :: a1 :: a2 :: a3 :: a4 :: a5 :: a6 :: a7 :: lv) (.int x :: st) := fun H locs ls i1 i2 i3 i4 => lv_istore cx.1 cx.2.1 d i4.has hn rfl (fun ls9 hl9 => kk H locs ls9 i1 i2 i3 (lH.set1 (lv := a0 :: a1 :: a2 :: a3 :: a4 :: a5 :: a6 :: a7 :: lv) (fun w h _ => hp w (by simpa using h)) hl9))
theorem a_istore8 (cx : Cx l g p s m args meth c A cc nL own) {x : Int32} {a0 a1 a2 a3 a4 a5 a6 a7 a8 : Option Value} (d : decode cc pc = .ok (.istore 8, 2)) (hn : 8 < nL) (hp : ∀ w, a7 = some w → w.category = 1) (kk : AW l g p e R s m args below meth c A nL Q ad τ cells slots (pc + 2) (a0 :: a1 :: a2 :: a3 :: a4 :: a5 :: a6 :: a7 :: some (.int x) :: lv) st) : AW l g p e R s m args below meth c A nL Q ad τ cells slots pc (a0 :: a1 :: a2 :: a3 :: a4 :: a5 :: a6 :: a7 :: a8 :: lv) (.int x :: st) := fun H locs ls i1 i2 i3 i4 => lv_istore cx.1 cx.2.1 d i4.has hn rfl (fun ls9 hl9 => kk H locs ls9 i1 i2 i3 (lH.set1 (lv := a0 :: a1 :: a2 :: a3 :: a4 :: a5 :: a6 :: a7 :: a8 :: lv) (fun w h _ => hp w (by simpa using h)) hl9))
theorem a_astore_n0 (cx : Cx l g p s m args meth c A cc nL own) {k : Fin 4} {x : Nat} {a0 : Option Value} (d : decode cc pc = .ok (.astore_n k, 1)) (hi : (k : Nat) = 0) (hn : 0 < nL) (kk : AW l g p e R s m args below meth c A nL Q ad τ cells slots (pc + 1) (some (.ref x) :: lv) st) : AW l g p e R s m args below meth c A nL Q ad τ cells slots pc (a0 :: lv) (.ref x :: st) := fun H locs ls i1 i2 i3 i4 => lv_astore_n cx.1 cx.2.1 d hi i4.has hn rfl (fun ls9 hl9 => kk H locs ls9 i1 i2 i3 (lH.set1 (lv := a0 :: lv) (fun w h q => absurd q (by decide)) hl9))
theorem a_astore0 (cx : Cx l g p s m args meth c A cc nL own) {x : Nat} {a0 : Option Value} (d : decode cc pc = .ok (.astore 0, 2)) (hn : 0 < nL) (kk : AW l g p e R s m args below meth c A nL Q ad τ cells slots (pc + 2) (some (.ref x) :: lv) st) : AW l g p e R s m args below meth c A nL Q ad τ cells slots pc (a0 :: lv) (.ref x :: st) := fun H locs ls i1 i2 i3 i4 => lv_astore cx.1 cx.2.1 d i4.has hn rfl (fun ls9 hl9 => kk H locs ls9 i1 i2 i3 (lH.set1 (lv := a0 :: lv) (fun w h q => absurd q (by decide)) hl9))
theorem a_astore_n1 (cx : Cx l g p s m args meth c A cc nL own) {k : Fin 4} {x : Nat} {a0 a1 : Option Value} (d : decode cc pc = .ok (.astore_n k, 1)) (hi : (k : Nat) = 1) (hn : 1 < nL) (hp : ∀ w, a0 = some w → w.category = 1) (kk : AW l g p e R s m args below meth c A nL Q ad τ cells slots (pc + 1) (a0 :: some (.ref x) :: lv) st) : AW l g p e R s m args below meth c A nL Q ad τ cells slots pc (a0 :: a1 :: lv) (.ref x :: st) := fun H locs ls i1 i2 i3 i4 => lv_astore_n cx.1 cx.2.1 d hi i4.has hn rfl (fun ls9 hl9 => kk H locs ls9 i1 i2 i3 (lH.set1 (lv := a0 :: a1 :: lv) (fun w h _ => hp w (by simpa using h)) hl9))
theorem a_astore1 (cx : Cx l g p s m args meth c A cc nL own) {x : Nat} {a0 a1 : Option Value} (d : decode cc pc = .ok (.astore 1, 2)) (hn : 1 < nL) (hp : ∀ w, a0 = some w → w.category = 1) (kk : AW l g p e R s m args below meth c A nL Q ad τ cells slots (pc + 2) (a0 :: some (.ref x) :: lv) st) : AW l g p e R s m args below meth c A nL Q ad τ cells slots pc (a0 :: a1 :: lv) (.ref x :: st) := fun H locs ls i1 i2 i3 i4 => lv_astore cx.1 cx.2.1 d i4.has hn rfl (fun ls9 hl9 => kk H locs ls9 i1 i2 i3 (lH.set1 (lv := a0 :: a1 :: lv) (fun w h _ => hp w (by simpa using h)) hl9))
theorem a_astore_n2 (cx : Cx l g p s m args meth c A cc nL own) {k : Fin 4} {x : Nat} {a0 a1 a2 : Option Value} (d : decode cc pc = .ok (.astore_n k, 1)) (hi : (k : Nat) = 2) (hn : 2 < nL) (hp : ∀ w, a1 = some w → w.category = 1) (kk : AW l g p e R s m args below meth c A nL Q ad τ cells slots (pc + 1) (a0 :: a1 :: some (.ref x) :: lv) st) : AW l g p e R s m args below meth c A nL Q ad τ cells slots pc (a0 :: a1 :: a2 :: lv) (.ref x :: st) := fun H locs ls i1 i2 i3 i4 => lv_astore_n cx.1 cx.2.1 d hi i4.has hn rfl (fun ls9 hl9 => kk H locs ls9 i1 i2 i3 (lH.set1 (lv := a0 :: a1 :: a2 :: lv) (fun w h _ => hp w (by simpa using h)) hl9))
theorem a_astore2 (cx : Cx l g p s m args meth c A cc nL own) {x : Nat} {a0 a1 a2 : Option Value} (d : decode cc pc = .ok (.astore 2, 2)) (hn : 2 < nL) (hp : ∀ w, a1 = some w → w.category = 1) (kk : AW l g p e R s m args below meth c A nL Q ad τ cells slots (pc + 2) (a0 :: a1 :: some (.ref x) :: lv) st) : AW l g p e R s m args below meth c A nL Q ad τ cells slots pc (a0 :: a1 :: a2 :: lv) (.ref x :: st) := fun H locs ls i1 i2 i3 i4 => lv_astore cx.1 cx.2.1 d i4.has hn rfl (fun ls9 hl9 => kk H locs ls9 i1 i2 i3 (lH.set1 (lv := a0 :: a1 :: a2 :: lv) (fun w h _ => hp w (by simpa using h)) hl9))
theorem a_astore_n3 (cx : Cx l g p s m args meth c A cc nL own) {k : Fin 4} {x : Nat} {a0 a1 a2 a3 : Option Value} (d : decode cc pc = .ok (.astore_n k, 1)) (hi : (k : Nat) = 3) (hn : 3 < nL) (hp : ∀ w, a2 = some w → w.category = 1) (kk : AW l g p e R s m args below meth c A nL Q ad τ cells slots (pc + 1) (a0 :: a1 :: a2 :: some (.ref x) :: lv) st) : AW l g p e R s m args below meth c A nL Q ad τ cells slots pc (a0 :: a1 :: a2 :: a3 :: lv) (.ref x :: st) := fun H locs ls i1 i2 i3 i4 => lv_astore_n cx.1 cx.2.1 d hi i4.has hn rfl (fun ls9 hl9 => kk H locs ls9 i1 i2 i3 (lH.set1 (lv := a0 :: a1 :: a2 :: a3 :: lv) (fun w h _ => hp w (by simpa using h)) hl9))
theorem a_astore3 (cx : Cx l g p s m args meth c A cc nL own) {x : Nat} {a0 a1 a2 a3 : Option Value} (d : decode cc pc = .ok (.astore 3, 2)) (hn : 3 < nL) (hp : ∀ w, a2 = some w → w.category = 1) (kk : AW l g p e R s m args below meth c A nL Q ad τ cells slots (pc + 2) (a0 :: a1 :: a2 :: some (.ref x) :: lv) st) : AW l g p e R s m args below meth c A nL Q ad τ cells slots pc (a0 :: a1 :: a2 :: a3 :: lv) (.ref x :: st) := fun H locs ls i1 i2 i3 i4 => lv_astore cx.1 cx.2.1 d i4.has hn rfl (fun ls9 hl9 => kk H locs ls9 i1 i2 i3 (lH.set1 (lv := a0 :: a1 :: a2 :: a3 :: lv) (fun w h _ => hp w (by simpa using h)) hl9))
theorem a_astore4 (cx : Cx l g p s m args meth c A cc nL own) {x : Nat} {a0 a1 a2 a3 a4 : Option Value} (d : decode cc pc = .ok (.astore 4, 2)) (hn : 4 < nL) (hp : ∀ w, a3 = some w → w.category = 1) (kk : AW l g p e R s m args below meth c A nL Q ad τ cells slots (pc + 2) (a0 :: a1 :: a2 :: a3 :: some (.ref x) :: lv) st) : AW l g p e R s m args below meth c A nL Q ad τ cells slots pc (a0 :: a1 :: a2 :: a3 :: a4 :: lv) (.ref x :: st) := fun H locs ls i1 i2 i3 i4 => lv_astore cx.1 cx.2.1 d i4.has hn rfl (fun ls9 hl9 => kk H locs ls9 i1 i2 i3 (lH.set1 (lv := a0 :: a1 :: a2 :: a3 :: a4 :: lv) (fun w h _ => hp w (by simpa using h)) hl9))
theorem a_astore5 (cx : Cx l g p s m args meth c A cc nL own) {x : Nat} {a0 a1 a2 a3 a4 a5 : Option Value} (d : decode cc pc = .ok (.astore 5, 2)) (hn : 5 < nL) (hp : ∀ w, a4 = some w → w.category = 1) (kk : AW l g p e R s m args below meth c A nL Q ad τ cells slots (pc + 2) (a0 :: a1 :: a2 :: a3 :: a4 :: some (.ref x) :: lv) st) : AW l g p e R s m args below meth c A nL Q ad τ cells slots pc (a0 :: a1 :: a2 :: a3 :: a4 :: a5 :: lv) (.ref x :: st) := fun H locs ls i1 i2 i3 i4 => lv_astore cx.1 cx.2.1 d i4.has hn rfl (fun ls9 hl9 => kk H locs ls9 i1 i2 i3 (lH.set1 (lv := a0 :: a1 :: a2 :: a3 :: a4 :: a5 :: lv) (fun w h _ => hp w (by simpa using h)) hl9))
theorem a_astore6 (cx : Cx l g p s m args meth c A cc nL own) {x : Nat} {a0 a1 a2 a3 a4 a5 a6 : Option Value} (d : decode cc pc = .ok (.astore 6, 2)) (hn : 6 < nL) (hp : ∀ w, a5 = some w → w.category = 1) (kk : AW l g p e R s m args below meth c A nL Q ad τ cells slots (pc + 2) (a0 :: a1 :: a2 :: a3 :: a4 :: a5 :: some (.ref x) :: lv) st) : AW l g p e R s m args below meth c A nL Q ad τ cells slots pc (a0 :: a1 :: a2 :: a3 :: a4 :: a5 :: a6 :: lv) (.ref x :: st) := fun H locs ls i1 i2 i3 i4 => lv_astore cx.1 cx.2.1 d i4.has hn rfl (fun ls9 hl9 => kk H locs ls9 i1 i2 i3 (lH.set1 (lv := a0 :: a1 :: a2 :: a3 :: a4 :: a5 :: a6 :: lv) (fun w h _ => hp w (by simpa using h)) hl9))
theorem a_astore7 (cx : Cx l g p s m args meth c A cc nL own) {x : Nat} {a0 a1 a2 a3 a4 a5 a6 a7 : Option Value} (d : decode cc pc = .ok (.astore 7, 2)) (hn : 7 < nL) (hp : ∀ w, a6 = some w → w.category = 1) (kk : AW l g p e R s m args below meth c A nL Q ad τ cells slots (pc + 2) (a0 :: a1 :: a2 :: a3 :: a4 :: a5 :: a6 :: some (.ref x) :: lv) st) : AW l g p e R s m args below meth c A nL Q ad τ cells slots pc (a0 :: a1 :: a2 :: a3 :: a4 :: a5 :: a6 :: a7 :: lv) (.ref x :: st) := fun H locs ls i1 i2 i3 i4 => lv_astore cx.1 cx.2.1 d i4.has hn rfl (fun ls9 hl9 => kk H locs ls9 i1 i2 i3 (lH.set1 (lv := a0 :: a1 :: a2 :: a3 :: a4 :: a5 :: a6 :: a7 :: lv) (fun w h _ => hp w (by simpa using h)) hl9))
theorem a_astore8 (cx : Cx l g p s m args meth c A cc nL own) {x : Nat} {a0 a1 a2 a3 a4 a5 a6 a7 a8 : Option Value} (d : decode cc pc = .ok (.astore 8, 2)) (hn : 8 < nL) (hp : ∀ w, a7 = some w → w.category = 1) (kk : AW l g p e R s m args below meth c A nL Q ad τ cells slots (pc + 2) (a0 :: a1 :: a2 :: a3 :: a4 :: a5 :: a6 :: a7 :: some (.ref x) :: lv) st) : AW l g p e R s m args below meth c A nL Q ad τ cells slots pc (a0 :: a1 :: a2 :: a3 :: a4 :: a5 :: a6 :: a7 :: a8 :: lv) (.ref x :: st) := fun H locs ls i1 i2 i3 i4 => lv_astore cx.1 cx.2.1 d i4.has hn rfl (fun ls9 hl9 => kk H locs ls9 i1 i2 i3 (lH.set1 (lv := a0 :: a1 :: a2 :: a3 :: a4 :: a5 :: a6 :: a7 :: a8 :: lv) (fun w h _ => hp w (by simpa using h)) hl9))
theorem a_astore_n0N (cx : Cx l g p s m args meth c A cc nL own) {k : Fin 4} {a0 : Option Value} (d : decode cc pc = .ok (.astore_n k, 1)) (hi : (k : Nat) = 0) (hn : 0 < nL) (kk : AW l g p e R s m args below meth c A nL Q ad τ cells slots (pc + 1) (some .null :: lv) st) : AW l g p e R s m args below meth c A nL Q ad τ cells slots pc (a0 :: lv) (.null :: st) := fun H locs ls i1 i2 i3 i4 => lv_astore_nN cx.1 cx.2.1 d hi i4.has hn rfl (fun ls9 hl9 => kk H locs ls9 i1 i2 i3 (lH.set1 (lv := a0 :: lv) (fun w h q => absurd q (by decide)) hl9))
theorem a_iinc0 (cx : Cx l g p s m args meth c A cc nL own) {n : Int} {x : Int32} (v : Int32)  (d : decode cc pc = .ok (.iinc 0 n, 3)) (hv : x + Int32.ofInt n = v) (hn : 0 < nL) (kk : AW l g p e R s m args below meth c A nL Q ad τ cells slots (pc + 3) (some (.int v) :: lv) st) : AW l g p e R s m args below meth c A nL Q ad τ cells slots pc (some (.int x) :: lv) st := by
  intro H locs ls i1 i2 i3 i4
  obtain ⟨k9, hk9⟩ := List.getElem?_of_mem (lPairs_mem.mpr (show (some (.int x) :: lv : LV)[0]? = some (some (.int x)) from rfl))
  exact lv_iinc (k := k9) cx.1 cx.2.1 d i4.has hk9 hv hn rfl (fun ls9 hl9 => kk H locs ls9 i1 i2 i3 (lH.set1 (lv := some (.int x) :: lv) (fun w h q => absurd q (by decide)) hl9))
theorem a_astore_n1N (cx : Cx l g p s m args meth c A cc nL own) {k : Fin 4} {a0 a1 : Option Value} (d : decode cc pc = .ok (.astore_n k, 1)) (hi : (k : Nat) = 1) (hn : 1 < nL) (hp : ∀ w, a0 = some w → w.category = 1) (kk : AW l g p e R s m args below meth c A nL Q ad τ cells slots (pc + 1) (a0 :: some .null :: lv) st) : AW l g p e R s m args below meth c A nL Q ad τ cells slots pc (a0 :: a1 :: lv) (.null :: st) := fun H locs ls i1 i2 i3 i4 => lv_astore_nN cx.1 cx.2.1 d hi i4.has hn rfl (fun ls9 hl9 => kk H locs ls9 i1 i2 i3 (lH.set1 (lv := a0 :: a1 :: lv) (fun w h _ => hp w (by simpa using h)) hl9))
theorem a_iinc1 (cx : Cx l g p s m args meth c A cc nL own) {n : Int} {x : Int32} (v : Int32) {a0 : Option Value} (d : decode cc pc = .ok (.iinc 1 n, 3)) (hv : x + Int32.ofInt n = v) (hn : 1 < nL) (hp : ∀ w, a0 = some w → w.category = 1) (kk : AW l g p e R s m args below meth c A nL Q ad τ cells slots (pc + 3) (a0 :: some (.int v) :: lv) st) : AW l g p e R s m args below meth c A nL Q ad τ cells slots pc (a0 :: some (.int x) :: lv) st := by
  intro H locs ls i1 i2 i3 i4
  obtain ⟨k9, hk9⟩ := List.getElem?_of_mem (lPairs_mem.mpr (show (a0 :: some (.int x) :: lv : LV)[1]? = some (some (.int x)) from rfl))
  exact lv_iinc (k := k9) cx.1 cx.2.1 d i4.has hk9 hv hn rfl (fun ls9 hl9 => kk H locs ls9 i1 i2 i3 (lH.set1 (lv := a0 :: some (.int x) :: lv) (fun w h _ => hp w (by simpa using h)) hl9))
theorem a_astore_n2N (cx : Cx l g p s m args meth c A cc nL own) {k : Fin 4} {a0 a1 a2 : Option Value} (d : decode cc pc = .ok (.astore_n k, 1)) (hi : (k : Nat) = 2) (hn : 2 < nL) (hp : ∀ w, a1 = some w → w.category = 1) (kk : AW l g p e R s m args below meth c A nL Q ad τ cells slots (pc + 1) (a0 :: a1 :: some .null :: lv) st) : AW l g p e R s m args below meth c A nL Q ad τ cells slots pc (a0 :: a1 :: a2 :: lv) (.null :: st) := fun H locs ls i1 i2 i3 i4 => lv_astore_nN cx.1 cx.2.1 d hi i4.has hn rfl (fun ls9 hl9 => kk H locs ls9 i1 i2 i3 (lH.set1 (lv := a0 :: a1 :: a2 :: lv) (fun w h _ => hp w (by simpa using h)) hl9))
theorem a_iinc2 (cx : Cx l g p s m args meth c A cc nL own) {n : Int} {x : Int32} (v : Int32) {a0 a1 : Option Value} (d : decode cc pc = .ok (.iinc 2 n, 3)) (hv : x + Int32.ofInt n = v) (hn : 2 < nL) (hp : ∀ w, a1 = some w → w.category = 1) (kk : AW l g p e R s m args below meth c A nL Q ad τ cells slots (pc + 3) (a0 :: a1 :: some (.int v) :: lv) st) : AW l g p e R s m args below meth c A nL Q ad τ cells slots pc (a0 :: a1 :: some (.int x) :: lv) st := by
  intro H locs ls i1 i2 i3 i4
  obtain ⟨k9, hk9⟩ := List.getElem?_of_mem (lPairs_mem.mpr (show (a0 :: a1 :: some (.int x) :: lv : LV)[2]? = some (some (.int x)) from rfl))
  exact lv_iinc (k := k9) cx.1 cx.2.1 d i4.has hk9 hv hn rfl (fun ls9 hl9 => kk H locs ls9 i1 i2 i3 (lH.set1 (lv := a0 :: a1 :: some (.int x) :: lv) (fun w h _ => hp w (by simpa using h)) hl9))
theorem a_astore_n3N (cx : Cx l g p s m args meth c A cc nL own) {k : Fin 4} {a0 a1 a2 a3 : Option Value} (d : decode cc pc = .ok (.astore_n k, 1)) (hi : (k : Nat) = 3) (hn : 3 < nL) (hp : ∀ w, a2 = some w → w.category = 1) (kk : AW l g p e R s m args below meth c A nL Q ad τ cells slots (pc + 1) (a0 :: a1 :: a2 :: some .null :: lv) st) : AW l g p e R s m args below meth c A nL Q ad τ cells slots pc (a0 :: a1 :: a2 :: a3 :: lv) (.null :: st) := fun H locs ls i1 i2 i3 i4 => lv_astore_nN cx.1 cx.2.1 d hi i4.has hn rfl (fun ls9 hl9 => kk H locs ls9 i1 i2 i3 (lH.set1 (lv := a0 :: a1 :: a2 :: a3 :: lv) (fun w h _ => hp w (by simpa using h)) hl9))
theorem a_iinc3 (cx : Cx l g p s m args meth c A cc nL own) {n : Int} {x : Int32} (v : Int32) {a0 a1 a2 : Option Value} (d : decode cc pc = .ok (.iinc 3 n, 3)) (hv : x + Int32.ofInt n = v) (hn : 3 < nL) (hp : ∀ w, a2 = some w → w.category = 1) (kk : AW l g p e R s m args below meth c A nL Q ad τ cells slots (pc + 3) (a0 :: a1 :: a2 :: some (.int v) :: lv) st) : AW l g p e R s m args below meth c A nL Q ad τ cells slots pc (a0 :: a1 :: a2 :: some (.int x) :: lv) st := by
  intro H locs ls i1 i2 i3 i4
  obtain ⟨k9, hk9⟩ := List.getElem?_of_mem (lPairs_mem.mpr (show (a0 :: a1 :: a2 :: some (.int x) :: lv : LV)[3]? = some (some (.int x)) from rfl))
  exact lv_iinc (k := k9) cx.1 cx.2.1 d i4.has hk9 hv hn rfl (fun ls9 hl9 => kk H locs ls9 i1 i2 i3 (lH.set1 (lv := a0 :: a1 :: a2 :: some (.int x) :: lv) (fun w h _ => hp w (by simpa using h)) hl9))
theorem a_iinc4 (cx : Cx l g p s m args meth c A cc nL own) {n : Int} {x : Int32} (v : Int32) {a0 a1 a2 a3 : Option Value} (d : decode cc pc = .ok (.iinc 4 n, 3)) (hv : x + Int32.ofInt n = v) (hn : 4 < nL) (hp : ∀ w, a3 = some w → w.category = 1) (kk : AW l g p e R s m args below meth c A nL Q ad τ cells slots (pc + 3) (a0 :: a1 :: a2 :: a3 :: some (.int v) :: lv) st) : AW l g p e R s m args below meth c A nL Q ad τ cells slots pc (a0 :: a1 :: a2 :: a3 :: some (.int x) :: lv) st := by
  intro H locs ls i1 i2 i3 i4
  obtain ⟨k9, hk9⟩ := List.getElem?_of_mem (lPairs_mem.mpr (show (a0 :: a1 :: a2 :: a3 :: some (.int x) :: lv : LV)[4]? = some (some (.int x)) from rfl))
  exact lv_iinc (k := k9) cx.1 cx.2.1 d i4.has hk9 hv hn rfl (fun ls9 hl9 => kk H locs ls9 i1 i2 i3 (lH.set1 (lv := a0 :: a1 :: a2 :: a3 :: some (.int x) :: lv) (fun w h _ => hp w (by simpa using h)) hl9))
theorem a_iinc5 (cx : Cx l g p s m args meth c A cc nL own) {n : Int} {x : Int32} (v : Int32) {a0 a1 a2 a3 a4 : Option Value} (d : decode cc pc = .ok (.iinc 5 n, 3)) (hv : x + Int32.ofInt n = v) (hn : 5 < nL) (hp : ∀ w, a4 = some w → w.category = 1) (kk : AW l g p e R s m args below meth c A nL Q ad τ cells slots (pc + 3) (a0 :: a1 :: a2 :: a3 :: a4 :: some (.int v) :: lv) st) : AW l g p e R s m args below meth c A nL Q ad τ cells slots pc (a0 :: a1 :: a2 :: a3 :: a4 :: some (.int x) :: lv) st := by
  intro H locs ls i1 i2 i3 i4
  obtain ⟨k9, hk9⟩ := List.getElem?_of_mem (lPairs_mem.mpr (show (a0 :: a1 :: a2 :: a3 :: a4 :: some (.int x) :: lv : LV)[5]? = some (some (.int x)) from rfl))
  exact lv_iinc (k := k9) cx.1 cx.2.1 d i4.has hk9 hv hn rfl (fun ls9 hl9 => kk H locs ls9 i1 i2 i3 (lH.set1 (lv := a0 :: a1 :: a2 :: a3 :: a4 :: some (.int x) :: lv) (fun w h _ => hp w (by simpa using h)) hl9))
theorem a_iinc6 (cx : Cx l g p s m args meth c A cc nL own) {n : Int} {x : Int32} (v : Int32) {a0 a1 a2 a3 a4 a5 : Option Value} (d : decode cc pc = .ok (.iinc 6 n, 3)) (hv : x + Int32.ofInt n = v) (hn : 6 < nL) (hp : ∀ w, a5 = some w → w.category = 1) (kk : AW l g p e R s m args below meth c A nL Q ad τ cells slots (pc + 3) (a0 :: a1 :: a2 :: a3 :: a4 :: a5 :: some (.int v) :: lv) st) : AW l g p e R s m args below meth c A nL Q ad τ cells slots pc (a0 :: a1 :: a2 :: a3 :: a4 :: a5 :: some (.int x) :: lv) st := by
  intro H locs ls i1 i2 i3 i4
  obtain ⟨k9, hk9⟩ := List.getElem?_of_mem (lPairs_mem.mpr (show (a0 :: a1 :: a2 :: a3 :: a4 :: a5 :: some (.int x) :: lv : LV)[6]? = some (some (.int x)) from rfl))
  exact lv_iinc (k := k9) cx.1 cx.2.1 d i4.has hk9 hv hn rfl (fun ls9 hl9 => kk H locs ls9 i1 i2 i3 (lH.set1 (lv := a0 :: a1 :: a2 :: a3 :: a4 :: a5 :: some (.int x) :: lv) (fun w h _ => hp w (by simpa using h)) hl9))
theorem a_iinc7 (cx : Cx l g p s m args meth c A cc nL own) {n : Int} {x : Int32} (v : Int32) {a0 a1 a2 a3 a4 a5 a6 : Option Value} (d : decode cc pc = .ok (.iinc 7 n, 3)) (hv : x + Int32.ofInt n = v) (hn : 7 < nL) (hp : ∀ w, a6 = some w → w.category = 1) (kk : AW l g p e R s m args below meth c A nL Q ad τ cells slots (pc + 3) (a0 :: a1 :: a2 :: a3 :: a4 :: a5 :: a6 :: some (.int v) :: lv) st) : AW l g p e R s m args below meth c A nL Q ad τ cells slots pc (a0 :: a1 :: a2 :: a3 :: a4 :: a5 :: a6 :: some (.int x) :: lv) st := by
  intro H locs ls i1 i2 i3 i4
  obtain ⟨k9, hk9⟩ := List.getElem?_of_mem (lPairs_mem.mpr (show (a0 :: a1 :: a2 :: a3 :: a4 :: a5 :: a6 :: some (.int x) :: lv : LV)[7]? = some (some (.int x)) from rfl))
  exact lv_iinc (k := k9) cx.1 cx.2.1 d i4.has hk9 hv hn rfl (fun ls9 hl9 => kk H locs ls9 i1 i2 i3 (lH.set1 (lv := a0 :: a1 :: a2 :: a3 :: a4 :: a5 :: a6 :: some (.int x) :: lv) (fun w h _ => hp w (by simpa using h)) hl9))
theorem a_iinc8 (cx : Cx l g p s m args meth c A cc nL own) {n : Int} {x : Int32} (v : Int32) {a0 a1 a2 a3 a4 a5 a6 a7 : Option Value} (d : decode cc pc = .ok (.iinc 8 n, 3)) (hv : x + Int32.ofInt n = v) (hn : 8 < nL) (hp : ∀ w, a7 = some w → w.category = 1) (kk : AW l g p e R s m args below meth c A nL Q ad τ cells slots (pc + 3) (a0 :: a1 :: a2 :: a3 :: a4 :: a5 :: a6 :: a7 :: some (.int v) :: lv) st) : AW l g p e R s m args below meth c A nL Q ad τ cells slots pc (a0 :: a1 :: a2 :: a3 :: a4 :: a5 :: a6 :: a7 :: some (.int x) :: lv) st := by
  intro H locs ls i1 i2 i3 i4
  obtain ⟨k9, hk9⟩ := List.getElem?_of_mem (lPairs_mem.mpr (show (a0 :: a1 :: a2 :: a3 :: a4 :: a5 :: a6 :: a7 :: some (.int x) :: lv : LV)[8]? = some (some (.int x)) from rfl))
  exact lv_iinc (k := k9) cx.1 cx.2.1 d i4.has hk9 hv hn rfl (fun ls9 hl9 => kk H locs ls9 i1 i2 i3 (lH.set1 (lv := a0 :: a1 :: a2 :: a3 :: a4 :: a5 :: a6 :: a7 :: some (.int x) :: lv) (fun w h _ => hp w (by simpa using h)) hl9))
theorem a_fstore7 (cx : Cx l g p s m args meth c A cc nL own) {x : UInt32} {a0 a1 a2 a3 a4 a5 a6 a7 : Option Value} (d : decode cc pc = .ok (.fstore 7, 2)) (hn : 7 < nL) (hp : ∀ w, a6 = some w → w.category = 1) (kk : AW l g p e R s m args below meth c A nL Q ad τ cells slots (pc + 2) (a0 :: a1 :: a2 :: a3 :: a4 :: a5 :: a6 :: some (.float x) :: lv) st) : AW l g p e R s m args below meth c A nL Q ad τ cells slots pc (a0 :: a1 :: a2 :: a3 :: a4 :: a5 :: a6 :: a7 :: lv) (.float x :: st) := fun H locs ls i1 i2 i3 i4 => lv_fstore cx.1 cx.2.1 d i4.has hn rfl (fun ls9 hl9 => kk H locs ls9 i1 i2 i3 (lH.set1 (lv := a0 :: a1 :: a2 :: a3 :: a4 :: a5 :: a6 :: a7 :: lv) (fun w h _ => hp w (by simpa using h)) hl9))
theorem a_dstore7 (cx : Cx l g p s m args meth c A cc nL own) {x : UInt64} {a0 a1 a2 a3 a4 a5 a6 a7 a8 : Option Value} (d : decode cc pc = .ok (.dstore 7, 2)) (hn : 7 + 1 < nL) (hp : ∀ w, a6 = some w → w.category = 1) (kk : AW l g p e R s m args below meth c A nL Q ad τ cells slots (pc + 2) (a0 :: a1 :: a2 :: a3 :: a4 :: a5 :: a6 :: some (.double x) :: none :: lv) st) : AW l g p e R s m args below meth c A nL Q ad τ cells slots pc (a0 :: a1 :: a2 :: a3 :: a4 :: a5 :: a6 :: a7 :: a8 :: lv) (.double x :: st) := fun H locs ls i1 i2 i3 i4 => lv_dstore cx.1 cx.2.1 d i4.has hn rfl (fun ls9 hl9 => kk H locs ls9 i1 i2 i3 (lH.set2 (lv := a0 :: a1 :: a2 :: a3 :: a4 :: a5 :: a6 :: a7 :: a8 :: lv) (fun w h _ => hp w (by simpa using h)) hl9))
end AROWS
end
section
theorem aH_kept {g : GW} {ad : AD} {τ : RH} {H H1 : Heap} (h : aH g ad τ H) (hq : ∀ q : Nat, q < H.size → H1[q]? = H[q]?) : aH g ad τ H1 := ⟨fun r e hr => (h.1 r e hr).kept (hq _ (aH_lt h hr)), h.2⟩
theorem aW1 {D : va_G} {cl : List vw_C} {q : Nat × va_E} {H : Heap} (h : va_at D cl q H) : va_P D cl [q] H := fun k x hx => by
  match k, hx with
  | 0, hx => cases hx; exact h
theorem cx_K {l : Launch} {g : GW} {p : Program} {s : State} {m : MethodId} {args : Array Value} {meth : Method} {c : Code} {A : Nat → Prop} {cc : ByteArray} {nL : Nat} {own : String} (cx : Cx l g p s m args meth c A cc nL own) : va_K g.1 vwCl (aTys g) s := cx.2.2.2.2.2.1.1
theorem gi_V {own C : String} {idx : Nat} {y : MethodName} {cw : Cond} (h1 : Cond.methodLink own idx y ∈ TW) (h2 : Cond.instanceMethod y ∈ TW) (h3 : Cond.selects C y y ∈ TW) (h4 : Cond.initialized C ∈ TW) (h5 : cw ∈ TW) : GoodIn TW (wsV own idx C y (cw :: TW)) := by
  intro w hw
  simp only [wsV, List.cons_append, List.nil_append, List.mem_cons] at hw
  rcases hw with rfl | rfl | rfl | rfl | rfl | hw
  · exact ⟨h1, tw_good h1⟩
  · exact ⟨h2, tw_good h2⟩
  · exact ⟨h3, tw_good h3⟩
  · exact ⟨h4, tw_good h4⟩
  · exact ⟨h5, tw_good h5⟩
  · exact ⟨hw, tw_good hw⟩
theorem gi_S {own : String} {idx : Nat} {y : MethodName} {cw : Cond} (h1 : Cond.methodLink own idx y ∈ TW) (h2 : Cond.static y ∈ TW) (h4 : Cond.initialized y.cls ∈ TW) (h5 : cw ∈ TW) : GoodIn TW (va_wsS own idx y (cw :: TW)) := by
  intro w hw
  simp only [va_wsS, List.cons_append, List.nil_append, List.mem_cons] at hw
  rcases hw with rfl | rfl | rfl | rfl | hw
  · exact ⟨h1, tw_good h1⟩
  · exact ⟨h2, tw_good h2⟩
  · exact ⟨h4, tw_good h4⟩
  · exact ⟨h5, tw_good h5⟩
  · exact ⟨hw, tw_good hw⟩
theorem gi_I {cw : Cond} (h5 : cw ∈ TW) : GoodIn TW (cw :: TW) := by
  intro w hw
  rcases List.mem_cons.mp hw with rfl | hw
  · exact ⟨h5, tw_good h5⟩
  · exact ⟨hw, tw_good hw⟩
theorem aPc_blind {g : GW} {As : List Value} {ad : AD} {τ : RH} {sz : Nat} : FrameBlind (aPc g As ad τ sz) := fun a U f mk q => ⟨q.1, q.2.1, q.2.2.1, Gl.move (H := U.heap) (State.WarmedH.refl U) (fun _ _ _ => rfl) (fun _ h => h) q.2.2.2⟩
/-- the callee's start out of the caller's frame -/
theorem aPc_of {l : Launch} {g : GW} {p : Program} {s : State} {m : MethodId} {args : Array Value} {meth : Method} {c : Code} {A : Nat → Prop} {cc : ByteArray} {nL : Nat} {own : String} (cx : Cx l g p s m args meth c A cc nL own) {H : Heap} {locs : List Loc} {ad : AD} {τ : RH} (i1 : aH g ad τ H) (i2 : aIn ad τ A) (i3 : va_S A s.heap H locs) (As : List Value) : ∀ U : State, U.heap = H → s.WarmedH U.vm → aPc g As ad τ H.size As.toArray U := fun U hU hW =>
  ⟨rfl, by rw [hU], by rw [hU]; exact i1, Gl.move hW (fun a h1 h2 => by rw [hU]; exact i3.2.1 a h1 h2) (fun q hq => by
    rcases hq with ⟨r, e, hr, rfl⟩ | hq
    · exact i2 r e hr
    · exact cx.2.2.2.2.2.2.1 q (Nat.le_trans i3.1 hq)) cx.2.2.2.2.2.1⟩
theorem aA_sub {l : Launch} {g : GW} {p : Program} {s : State} {m : MethodId} {args : Array Value} {meth : Method} {c : Code} {A : Nat → Prop} {cc : ByteArray} {nL : Nat} {own : String} (cx : Cx l g p s m args meth c A cc nL own) {H : Heap} {locs : List Loc} {ad : AD} {τ : RH} (i2 : aIn ad τ A) (i3 : va_S A s.heap H locs) : ∀ q, aA ad τ H.size q → A q := fun q hq => by
  rcases hq with ⟨r, e, hr, rfl⟩ | hq
  · exact i2 r e hr
  · exact cx.2.2.2.2.2.2.1 q (Nat.le_trans i3.1 hq)
section BROWS
variable {l : Launch} {g : GW} {p : Program} {e : Env} {R : Room} {s : State} {m : MethodId} {args : Array Value} {below : List Frame} {meth : Method} {c : Code} {A : Nat → Prop} {cc : ByteArray} {nL : Nat} {own : String} {Q : State → Prop} {ad : AD} {τ : RH} {cells slots pc : Nat} {lv : LV} {st : List Value}
theorem a_get (cx : Cx l g p s m args meth c A cc nL own) {ref C : String} {T : u_T} {N ci index : Nat} (k : Nat) {r : Nat} {fs : List Value} {v : Value} (hin : ∀ w ∈ u_ws C T N, w ∈ TW) (hc : vwCl[ci]? = some (C, T, N)) (hk : k < N) (hlink : Cond.fieldLink own index ref (T k).2.1 (T k).2.2.1 ∈ TW) (hsame : ∀ x, s.fieldFound? (T k).1 (T k).2.1 (T k).2.2.1 = some x → s.fieldFound? ref (T k).2.1 (T k).2.2.1 = some x)
    (hτ : τ r = some (.inr (ci, fs))) (hv : fs[k]? = some v) (d : decode cc pc = .ok (.getfield index, 3)) (kk : AW l g p e R s m args below meth c A nL Q ad τ cells slots (pc + 3) lv (v :: st)) : AW l g p e R s m args below meth c A nL Q ad τ cells slots pc lv (.ref (ad r) :: st) := fun H locs ls i1 i2 i3 i4 =>
  va_get (D := g.1) (cl := vwCl) (ws := [(ad r, .inr (ci, fs))]) cx.1 cx.2.1 cx.2.2.2.2.1 hin cx.2.2.2.1 (cx_K cx) (aW1 (i1.1 r _ hτ)) 0 rfl hc k hk (cx.2.2.2.2.1 _ hlink) hsame hv d (kk H locs ls i1 i2 i3 i4)
theorem a_put (cx : Cx l g p s m args meth c A cc nL own) {ref C : String} {T : u_T} {N ci index : Nat} (k : Nat) {r : Nat} {fs : List Value} {v : Value} (hin : ∀ w ∈ u_ws C T N, w ∈ TW) (ty0 : Nat → FieldType) (hty : ∀ k, k < N → parseFieldDescriptor (T k).2.2.1 = some (ty0 k)) (hnm : ∀ a, a < N → ∀ b, b < N → a ≠ b → (T a).2.1 ≠ (T b).2.1) (hc : vwCl[ci]? = some (C, T, N)) (hk : k < N) (hlink : Cond.fieldLink own index ref (T k).2.1 (T k).2.2.1 ∈ TW) (hsame : ∀ x, s.fieldFound? (T k).1 (T k).2.1 (T k).2.2.1 = some x → s.fieldFound? ref (T k).2.1 (T k).2.2.1 = some x) (hfin : (T k).2.2.2 = false)
    (hτ : τ r = some (.inr (ci, fs))) (hn : narrow (ty0 k) v = v) (hfit : fits (ty0 k) v = true) (hl : k < fs.length) (d : decode cc pc = .ok (.putfield index, 3)) (kk : AW l g p e R s m args below meth c A nL Q ad (va_up τ r (some (.inr (ci, fs.set k v)))) cells slots (pc + 3) lv st) : AW l g p e R s m args below meth c A nL Q ad τ cells slots pc lv (v :: .ref (ad r) :: st) := by
  intro H locs ls i1 i2 i3 i4
  have hts := cx.2.2.2.2.1
  have hK := cx_K cx
  have hap := va_apart (own := own) hts hin ty0 hty hnm hK hc
  obtain ⟨r', h1, cell, q1, q2, q3, q4⟩ := i1.1 r _ hτ
  have hr : r' = (C, T, N) := Option.some.inj (h1.symm.trans hc)
  subst hr
  obtain ⟨hS, hfc, kC, hkC, hkind⟩ := hK.1 ci _ hc
  obtain ⟨cf, kf, fi, f, hi, hsl⟩ := hS k hk
  have hlay := hts _ (hin _ (u_in_lay hk))
  unfold u_lay at hlay
  rw [if_neg (by rw [hfin]; decide)] at hlay
  have hst := (u_facts hfc hkC (u_lays hts hin hk) hi).1
  have h6 := u_store hfc hkC hkind hlay hi (hty k hk) hn hfit
  refine W.putK cx.1 cx.2.1 (f := f) ⟨cx.2.2.2.1, hts _ hlink, ⟨_, _, _, hsame _ hi⟩, hst⟩ (by rw [q2]; exact h6) q1 q3 (by rw [hsl]; exact k2_hasslot (q4 k hk)) rfl rfl d fun H' e1 e2 e3 => ?_
  rw [hsl] at e1 ⊢
  exact kk H' _ ls (aH_set i1 hτ ⟨_, hc, t_OB.to (V := updV (vp_V fs) k v) ⟨_, e1, q2, q3, t_set q4 hap hk v⟩ (fun j _ => vp_updV_set hl v j)⟩ e3) (aIn_set i2 hτ) (i3.put e2 e3 (i2 r _ hτ)) i4
theorem a_putF (cx : Cx l g p s m args meth c A cc nL own) {ref C : String} {T : u_T} {N ci index : Nat} (k : Nat) {r : Nat} {fs : List Value} {v : Value} (hin : ∀ w ∈ u_ws C T N, w ∈ TW) (ty0 : Nat → FieldType) (hty : ∀ k, k < N → parseFieldDescriptor (T k).2.2.1 = some (ty0 k)) (hnm : ∀ a, a < N → ∀ b, b < N → a ≠ b → (T a).2.1 ≠ (T b).2.1) (hc : vwCl[ci]? = some (C, T, N)) (hk : k < N) (hlink : Cond.fieldLink own index ref (T k).2.1 (T k).2.2.1 ∈ TW) (hsame : ∀ x, s.fieldFound? (T k).1 (T k).2.1 (T k).2.2.1 = some x → s.fieldFound? ref (T k).2.1 (T k).2.2.1 = some x) (hfin : (T k).2.2.2 = true) (hdecl : (T k).1 = own) (hin2 : meth.name = "<init>")
    (hτ : τ r = some (.inr (ci, fs))) (hn : narrow (ty0 k) v = v) (hfit : fits (ty0 k) v = true) (hl : k < fs.length) (d : decode cc pc = .ok (.putfield index, 3)) (kk : AW l g p e R s m args below meth c A nL Q ad (va_up τ r (some (.inr (ci, fs.set k v)))) cells slots (pc + 3) lv st) : AW l g p e R s m args below meth c A nL Q ad τ cells slots pc lv (v :: .ref (ad r) :: st) := by
  intro H locs ls i1 i2 i3 i4
  have hts := cx.2.2.2.2.1
  have hK := cx_K cx
  have hown := cx.2.2.2.1
  have hap := va_apart (own := own) hts hin ty0 hty hnm hK hc
  obtain ⟨r', h1, cell, q1, q2, q3, q4⟩ := i1.1 r _ hτ
  have hr : r' = (C, T, N) := Option.some.inj (h1.symm.trans hc)
  subst hr
  obtain ⟨hS, hfc, kC, hkC, hkind⟩ := hK.1 ci _ hc
  obtain ⟨cf, kf, fi, f, hi, hsl⟩ := hS k hk
  have hlay := hts _ (hin _ (u_in_lay hk))
  unfold u_lay at hlay
  rw [if_pos hfin] at hlay
  have hst := (u_facts hfc hkC (u_lays hts hin hk) hi).1
  have hcf : m.cls = cf := by
    obtain ⟨_, _, c', _, _, _, -, -, hf', -, -, -, hown2, -⟩ := Cond.laysFinal_spec hlay
    have e1 : c' = cf := by have := hi.symm.trans hf'; simp at this; exact this.1.symm
    rw [hdecl] at hown2
    rw [← e1]; exact Option.some.inj (hown.symm.trans hown2)
  have h6 := u_fits hfc hkC hkind (Or.inr hlay) hi (hty k hk) hn hfit
  refine W.putFinK cx.1 cx.2.1 hown (hts _ hlink) (hsame _ hi) hst hcf hin2 (by rw [q2]; exact h6) q1 q3 (by rw [hsl]; exact k2_hasslot (q4 k hk)) rfl rfl d fun H' e1 e2 e3 => ?_
  rw [hsl] at e1 ⊢
  exact kk H' _ ls (aH_set i1 hτ ⟨_, hc, t_OB.to (V := updV (vp_V fs) k v) ⟨_, e1, q2, q3, t_set q4 hap hk v⟩ (fun j _ => vp_updV_set hl v j)⟩ e3) (aIn_set i2 hτ) (i3.put e2 e3 (i2 r _ hτ)) i4
theorem a_ild (cx : Cx l g p s m args meth c A cc nL own) {r n : Nat} {f : Nat → Int32} {i : Int32} (k : Nat) (hτ : τ r = some (.inl (g.2.1 1, n, .inl f))) (hi : i = nI k) (hk : k < n) (hn : n < 2 ^ 31) (d : decode cc pc = .ok (.iaload, 1)) (kk : AW l g p e R s m args below meth c A nL Q ad τ cells slots (pc + 1) lv (.int (f k) :: st)) : AW l g p e R s m args below meth c A nL Q ad τ cells slots pc lv (.int i :: .ref (ad r) :: st) := fun H locs ls i1 i2 i3 i4 =>
  va_iald (D := g.1) (cl := vwCl) (ws := [(ad r, .inl (g.2.1 1, n, .inl f))]) cx.1 cx.2.1 (cx_K cx) (aW1 (i1.1 r _ hτ)) 0 1 rfl rfl (by rw [hi]; exact vp_in_nI hk hn) d (by rw [hi, nI_clamp (Nat.lt_trans hk hn)]; exact kk H locs ls i1 i2 i3 i4)
theorem a_zld (cx : Cx l g p s m args meth c A cc nL own) {r n : Nat} {f : Nat → Int32} {i : Int32} (k : Nat) (hτ : τ r = some (.inl (g.2.1 2, n, .inl f))) (hi : i = nI k) (hk : k < n) (hn : n < 2 ^ 31) (d : decode cc pc = .ok (.baload, 1)) (kk : AW l g p e R s m args below meth c A nL Q ad τ cells slots (pc + 1) lv (.int (f k) :: st)) : AW l g p e R s m args below meth c A nL Q ad τ cells slots pc lv (.int i :: .ref (ad r) :: st) := fun H locs ls i1 i2 i3 i4 =>
  va_zald (D := g.1) (cl := vwCl) (ws := [(ad r, .inl (g.2.1 2, n, .inl f))]) cx.1 cx.2.1 (cx_K cx) (aW1 (i1.1 r _ hτ)) 0 2 rfl rfl (by rw [hi]; exact vp_in_nI hk hn) d (by rw [hi, nI_clamp (Nat.lt_trans hk hn)]; exact kk H locs ls i1 i2 i3 i4)
theorem a_cld (cx : Cx l g p s m args meth c A cc nL own) {r n : Nat} {f : Nat → Int32} {i : Int32} (k : Nat) (hτ : τ r = some (.inl (g.2.1 0, n, .inl f))) (hi : i = nI k) (hk : k < n) (hn : n < 2 ^ 31) (d : decode cc pc = .ok (.caload, 1)) (kk : AW l g p e R s m args below meth c A nL Q ad τ cells slots (pc + 1) lv (.int (f k) :: st)) : AW l g p e R s m args below meth c A nL Q ad τ cells slots pc lv (.int i :: .ref (ad r) :: st) := fun H locs ls i1 i2 i3 i4 =>
  va_cald (D := g.1) (cl := vwCl) (ws := [(ad r, .inl (g.2.1 0, n, .inl f))]) cx.1 cx.2.1 (cx_K cx) (aW1 (i1.1 r _ hτ)) 0 0 rfl rfl (by rw [hi]; exact vp_in_nI hk hn) d (by rw [hi, nI_clamp (Nat.lt_trans hk hn)]; exact kk H locs ls i1 i2 i3 i4)
theorem a_qld (cx : Cx l g p s m args meth c A cc nL own) {r n : Nat} {f : Nat → Option Nat} {i : Int32} (k : Nat) (hτ : τ r = some (.inl (g.2.1 3, n, .inr (.inr (.inr (.inr f)))))) (hi : i = nI k) (hk : k < n) (hn : n < 2 ^ 31) (d : decode cc pc = .ok (.aaload, 1)) (kk : AW l g p e R s m args below meth c A nL Q ad τ cells slots (pc + 1) lv (va_rf (f k) :: st)) : AW l g p e R s m args below meth c A nL Q ad τ cells slots pc lv (.int i :: .ref (ad r) :: st) := fun H locs ls i1 i2 i3 i4 =>
  va_aldq (D := g.1) (cl := vwCl) (ws := [(ad r, .inl (g.2.1 3, n, .inr (.inr (.inr (.inr f)))))]) cx.1 cx.2.1 (cx_K cx) (aW1 (i1.1 r _ hτ)) 0 3 rfl rfl (by rw [hi]; exact vp_in_nI hk hn) d (by rw [hi, nI_clamp (Nat.lt_trans hk hn)]; exact kk H locs ls i1 i2 i3 i4)
theorem a_ist (cx : Cx l g p s m args meth c A cc nL own) {r n : Nat} {f : Nat → Int32} {i : Int32} {x : Int32} (k : Nat) (hτ : τ r = some (.inl (g.2.1 1, n, .inl f))) (hi : i = nI k) (hk : k < n) (hn : n < 2 ^ 31) (d : decode cc pc = .ok (.iastore, 1)) (kk : AW l g p e R s m args below meth c A nL Q ad (va_up τ r (some (.inl (g.2.1 1, n, .inl (va_up f k x))))) cells slots (pc + 1) lv st) : AW l g p e R s m args below meth c A nL Q ad τ cells slots pc lv (.int x :: .int i :: .ref (ad r) :: st) := by
  intro H locs ls i1 i2 i3 i4
  have hin : vp_in i n := by rw [hi]; exact vp_in_nI hk hn
  have hcl : i.toNatClampNeg = k := by rw [hi]; exact nI_clamp (Nat.lt_trans hk hn)
  refine W.iast cx.1 cx.2.1 (i1.1 r _ hτ) (((cx_K cx).2 1 _ rfl).1 n (fun j => .int (f j))) (fun q => by cases q) (by show ¬ (i < 0 ∨ (arrV _ _ _).slots.size ≤ _); rw [arrV_size]; exact hin) rfl rfl d fun H1 e z oq => ?_
  refine kk H1 _ ls (aH_set i1 hτ ?_ oq) (aIn_set i2 hτ) (i3.put z oq (i2 r _ hτ)) i4
  show H1[ad r]? = some (vp_cell _ _)
  rw [e]
  rw [vp_cell_i, vp_cell_i, arrV_store]
  congr 2
  funext q
  rw [hcl]
  by_cases hq : q = k
  · subst hq
    simp [updV, va_up]
  · simp [updV, va_up, hq]
theorem a_zst (cx : Cx l g p s m args meth c A cc nL own) {r n : Nat} {f : Nat → Int32} {i : Int32} {x : Int32} (k : Nat) (hτ : τ r = some (.inl (g.2.1 2, n, .inl f))) (hi : i = nI k) (hk : k < n) (hn : n < 2 ^ 31) (hx : vp_nar .boolean x = x) (d : decode cc pc = .ok (.bastore, 1)) (kk : AW l g p e R s m args below meth c A nL Q ad (va_up τ r (some (.inl (g.2.1 2, n, .inl (va_up f k x))))) cells slots (pc + 1) lv st) : AW l g p e R s m args below meth c A nL Q ad τ cells slots pc lv (.int x :: .int i :: .ref (ad r) :: st) := by
  intro H locs ls i1 i2 i3 i4
  have hin : vp_in i n := by rw [hi]; exact vp_in_nI hk hn
  have hcl : i.toNatClampNeg = k := by rw [hi]; exact nI_clamp (Nat.lt_trans hk hn)
  refine W.zast cx.1 cx.2.1 (i1.1 r _ hτ) (((cx_K cx).2 2 _ rfl).1 n (fun j => .int (f j))) (fun q => by cases q) (by show ¬ (i < 0 ∨ (arrV _ _ _).slots.size ≤ _); rw [arrV_size]; exact hin) rfl rfl d fun H1 e z oq => ?_
  refine kk H1 _ ls (aH_set i1 hτ ?_ oq) (aIn_set i2 hτ) (i3.put z oq (i2 r _ hτ)) i4
  show H1[ad r]? = some (vp_cell _ _)
  rw [e]
  rw [vp_cell_i, vp_cell_i, arrV_store]
  congr 2
  funext q
  rw [hcl]
  by_cases hq : q = k
  · subst hq
    have hx' := hx
    simp only [vp_nar] at hx'
    simp [updV, va_up, narrow] at hx' ⊢
    exact hx'
  · simp [updV, va_up, hq]
theorem a_cst (cx : Cx l g p s m args meth c A cc nL own) {r n : Nat} {f : Nat → Int32} {i : Int32} {x : Int32} (k : Nat) (hτ : τ r = some (.inl (g.2.1 0, n, .inl f))) (hi : i = nI k) (hk : k < n) (hn : n < 2 ^ 31) (hx : vp_nar .char x = x) (d : decode cc pc = .ok (.castore, 1)) (kk : AW l g p e R s m args below meth c A nL Q ad (va_up τ r (some (.inl (g.2.1 0, n, .inl (va_up f k x))))) cells slots (pc + 1) lv st) : AW l g p e R s m args below meth c A nL Q ad τ cells slots pc lv (.int x :: .int i :: .ref (ad r) :: st) := by
  intro H locs ls i1 i2 i3 i4
  have hin : vp_in i n := by rw [hi]; exact vp_in_nI hk hn
  have hcl : i.toNatClampNeg = k := by rw [hi]; exact nI_clamp (Nat.lt_trans hk hn)
  refine W.cast cx.1 cx.2.1 (i1.1 r _ hτ) (((cx_K cx).2 0 _ rfl).1 n (fun j => .int (f j))) (fun q => by cases q) (by show ¬ (i < 0 ∨ (arrV _ _ _).slots.size ≤ _); rw [arrV_size]; exact hin) rfl rfl d fun H1 e z oq => ?_
  refine kk H1 _ ls (aH_set i1 hτ ?_ oq) (aIn_set i2 hτ) (i3.put z oq (i2 r _ hτ)) i4
  show H1[ad r]? = some (vp_cell _ _)
  rw [e]
  rw [vp_cell_i, vp_cell_i, arrV_store]
  congr 2
  funext q
  rw [hcl]
  by_cases hq : q = k
  · subst hq
    have hx' := hx
    simp only [vp_nar] at hx'
    simp [updV, va_up, narrow] at hx' ⊢
    exact hx'
  · simp [updV, va_up, hq]
theorem a_qst (cx : Cx l g p s m args meth c A cc nL own) {r n v ci : Nat} {vs : List Value} {f : Nat → Option Nat} {i : Int32} (k : Nat) {w : vw_C} (hτ : τ r = some (.inl (g.2.1 3, n, .inr (.inr (.inr (.inr f)))))) (hv : τ v = some (.inr (ci, vs))) (hw : vwCl[ci]? = some w) (hsub : s.vm.findClass "java/lang/Object" = some (g.1.1 ci) ∨ ∀ comp : ClassId, s.vm.findClass "java/lang/Object" = some comp → s.vm.assignable (g.1.1 ci) comp = true) (hi : i = nI k) (hk : k < n) (hn : n < 2 ^ 31) (d : decode cc pc = .ok (.aastore, 1)) (kk : AW l g p e R s m args below meth c A nL Q ad (va_up τ r (some (.inl (g.2.1 3, n, .inr (.inr (.inr (.inr (va_up f k (some (ad v)))))))))) cells slots (pc + 1) lv st) : AW l g p e R s m args below meth c A nL Q ad τ cells slots pc lv (.ref (ad v) :: .int i :: .ref (ad r) :: st) := by
  intro H locs ls i1 i2 i3 i4
  have hin : vp_in i n := by rw [hi]; exact vp_in_nI hk hn
  have hlt : i.toNatClampNeg < n := Nat.not_le.mp fun q => hin (Or.inr q)
  have h0 : ¬ i < 0 := fun q => hin (Or.inl q)
  have hcl : i.toNatClampNeg = k := by rw [hi]; exact nI_clamp (Nat.lt_trans hk hn)
  obtain ⟨r', hr', cellV, g1, g2, g3, -⟩ := i1.1 v _ hv
  have hcls := ((cx_K cx).1 ci w hw).2
  obtain ⟨kA, comp, k1, k2, k3, -⟩ := ((cx_K cx).2 3 _ rfl).2
  obtain ⟨kC, hkC, -⟩ := hcls.2
  have hass : s.vm.assignable (g.1.1 ci) comp = true := by
    rcases hsub with h | h
    · have : comp = g.1.1 ci := Option.some.inj (k3.symm.trans h)
      subst this
      exact va_assign hcls
    · exact h comp k3
  obtain ⟨kO, hkO, -⟩ := Vm.findClass_spec k3
  refine W.aast cx.1 cx.2.1 (i1.1 r _ hτ) (fun q h => by cases h) (fun h => by cases h) k1 k2 rfl hkO ⟨h0, by show _ < (arrV _ _ _).slots.size; rw [arrV_size]; exact hlt⟩ g1 (fun q h => by rw [g3] at h; cases h) (by rw [g2]; exact hkC) (by rw [g2]; exact hass) rfl rfl d fun H1 e z oq => ?_
  refine kk H1 _ ls (aH_set i1 hτ ?_ oq) (aIn_set i2 hτ) (i3.put z oq (i2 r _ hτ)) i4
  show H1[ad r]? = some (vp_cell _ _)
  rw [e]
  rw [vp_cell_q, vp_cell_q, arrV_store]
  congr 2
  funext q
  rw [hcl]
  by_cases hq : q = k
  · subst hq
    simp [updV, va_up, va_rf]
  · simp [updV, va_up, hq]
theorem a_alen (cx : Cx l g p s m args meth c A cc nL own) {r n : Nat} {cA : ClassId} {pl : (Nat → Int32) ⊕ (Nat → Int64) ⊕ (Nat → UInt32) ⊕ (Nat → UInt64) ⊕ (Nat → Option Nat)} {ty : FieldType} (t0 : Nat) {v : Int32} (hτ : τ r = some (.inl (cA, n, pl))) (ht : (aTys g)[t0]? = some (cA, ty)) (hv : Int32.ofNat n = v) (d : decode cc pc = .ok (.arraylength, 1)) (kk : AW l g p e R s m args below meth c A nL Q ad τ cells slots (pc + 1) lv (.int v :: st)) : AW l g p e R s m args below meth c A nL Q ad τ cells slots pc lv (.ref (ad r) :: st) := fun H locs ls i1 i2 i3 i4 =>
  va_alen (D := g.1) (cl := vwCl) (ws := [(ad r, .inl (cA, n, pl))]) cx.1 cx.2.1 (cx_K cx) (aW1 (i1.1 r _ hτ)) 0 t0 rfl ht hv d (kk H locs ls i1 i2 i3 i4)
theorem a_elen (cx : Cx l g p s m args meth c A cc nL own) (d : decode cc pc = .ok (.arraylength, 1)) (kk : AW l g p e R s m args below meth c A nL Q ad τ cells slots (pc + 1) lv (.int 0 :: st)) : AW l g p e R s m args below meth c A nL Q ad τ cells slots pc lv (.ref g.2.2 :: st) := fun H locs ls i1 i2 i3 i4 =>
  va_tlen cx.1 cx.2.1 cx.2.2.2.2.2.1.2.2.2.2.1 i3 rfl d (kk H locs ls i1 i2 i3 i4)
theorem a_gets (cx : Cx l g p s m args meth c A cc nL own) {index : Nat} (hlink : Cond.fieldLink own index "java/util/ArrayList" "DEFAULTCAPACITY_EMPTY_ELEMENTDATA" "[Ljava/lang/Object;" ∈ TW) (d : decode cc pc = .ok (.getstatic index, 3)) (kk : AW l g p e R s m args below meth c A nL Q ad τ cells slots (pc + 3) lv (.ref g.2.2 :: st)) : AW l g p e R s m args below meth c A nL Q ad τ cells slots pc lv st := fun H locs ls i1 i2 i3 i4 =>
  va_gets cx.1 cx.2.1 cx.2.2.2.2.2.1.2.2.2.1 i3 cx.2.2.2.1 (cx.2.2.2.2.1 _ hlink) (fun _ h => h) d (kk H locs ls i1 i2 i3 i4)
theorem a_cast (cx : Cx l g p s m args meth c A cc nL own) {r ci index N : Nat} {fs : List Value} {C nm : String} {T : u_T} (hτ : τ r = some (.inr (ci, fs))) (hc : vwCl[ci]? = some (C, T, N)) (hlink : Cond.classLink own index nm ∈ TW) (hca : Cond.castable C nm ∈ BW) (d : decode cc pc = .ok (.checkcast index, 3)) (kk : AW l g p e R s m args below meth c A nL Q ad τ cells slots (pc + 3) lv (.ref (ad r) :: st)) : AW l g p e R s m args below meth c A nL Q ad τ cells slots pc lv (.ref (ad r) :: st) := fun H locs ls i1 i2 i3 i4 =>
  va_castY cx.1 cx.2.1 cx.2.2.2.1 (cx.2.2.2.2.1 _ hlink) (cx.2.2.2.2.2.1.2.2.2.2.2.1 _ hca) (va_recv (cx_K cx) (aW1 (i1.1 r _ hτ)) (q0 := 0) hc rfl) d (kk H locs ls i1 i2 i3 i4)
theorem a_new (cx : Cx l g p s m args meth c A cc nL own) {C : String} {T : u_T} {N ci index : Nat} {fs : List Value} (r0 : Nat) (h0 : τ r0 = none) (hin : ∀ w ∈ u_ws C T N, w ∈ TW) (ty : Nat → FieldType) (hty : ∀ k, k < N → parseFieldDescriptor (T k).2.2.1 = some (ty k)) (hcl : Cond.classLink own index C ∈ TW) (hinst : Cond.instantiable C N ∈ TW) (hini : Cond.initialized C ∈ TW) (hc : vwCl[ci]? = some (C, T, N)) (hfs : ∀ j, j < N → defaultValue (ty j) = vp_V fs j) (hcells : cells + 1 ≤ R.cells) (hslots : slots + N ≤ R.slots) (d : decode cc pc = .ok (.new index, 3))
    (kk : ∀ q : Nat, AW l g p e R s m args below meth c A nL Q (va_up ad r0 q) (va_up τ r0 (some (.inr (ci, fs)))) (cells + 1) (slots + N) (pc + 3) lv (.ref q :: st)) : AW l g p e R s m args below meth c A nL Q ad τ cells slots pc lv st := by
  intro H locs ls i1 i2 i3 i4
  have hts := cx.2.2.2.2.1
  have hKn := (cx_K cx).1 ci _ hc
  refine W.newcK cx.1 cx.2.1 cx.2.2.2.1 (hts _ hcl) (hts _ hinst) (hts _ hini) rfl d hcells hslots hKn.2.1 rfl fun H1 kC hkC e1 z1 o1 => ?_
  exact kk H.size H1 _ ls (aH_push i1 h0 ⟨_, hc, (u_born ty hts hin hKn hkC e1 hty).to hfs⟩ o1) (aIn_push i2 (cx.2.2.2.2.2.2.1 _ i3.1)) ⟨Nat.le_trans i3.1 (by omega), fun x h1 h2 => (o1 x (Nat.lt_of_lt_of_le h1 i3.1)).trans (i3.2.1 x h1 h2), i3.2.2⟩ i4
theorem a_newa (cx : Cx l g p s m args meth c A cc nL own) {atype : ArrayType} {ty : FieldType} {n : Int32} {N t0 : Nat} {cA : ClassId} (r0 : Nat) (h0 : τ r0 = none) (pl : (Nat → Int32) ⊕ (Nat → Int64) ⊕ (Nat → UInt32) ⊕ (Nat → UInt64) ⊕ (Nat → Option Nat)) (harr : Cond.arrayClass (newarray.typeOf atype) ∈ TW) (hty : newarray.typeOf atype = ty) (ht : (aTys g)[t0]? = some (cA, ty)) (hq : va_RA s cA ty = (s.vm.findClass ("[" ++ ty.toString) = some cA)) (ha : ∀ cA : ClassId, vp_cell cA (N, pl) = arrV cA N (fun _ => defaultValue ty)) (hn : ¬ n < 0) (hN : n.toNatClampNeg = N) (hbytes : N * componentBytes ty ≤ 536870912) (hcells : cells + 1 ≤ R.cells) (hslots : slots + N ≤ R.slots) (d : decode cc pc = .ok (.newarray atype, 2))
    (kk : ∀ q : Nat, AW l g p e R s m args below meth c A nL Q (va_up ad r0 q) (va_up τ r0 (some (.inl (cA, N, pl)))) (cells + 1) (slots + N) (pc + 2) lv (.ref q :: st)) : AW l g p e R s m args below meth c A nL Q ad τ cells slots pc lv (.int n :: st) := by
  intro H locs ls i1 i2 i3 i4
  subst hty
  refine va_newaK cx.1 cx.2.1 (cx.2.2.2.2.1 _ harr) rfl d rfl hn hN hbytes hcells hslots rfl fun H1 cA' e1 z1 o1 hAr hNm => ?_
  have hc9 := ((cx_K cx).2 t0 _ ht).2
  rw [hq] at hc9
  have hcA : cA' = cA := Option.some.inj (hNm.symm.trans hc9)
  subst hcA
  refine kk H.size H1 _ ls (aH_push i1 h0 ?_ o1) (aIn_push i2 (cx.2.2.2.2.2.2.1 _ i3.1)) ⟨Nat.le_trans i3.1 (by omega), fun x h1 h2 => (o1 x (Nat.lt_of_lt_of_le h1 i3.1)).trans (i3.2.1 x h1 h2), i3.2.2⟩ i4
  show H1[H.size]? = some (vp_cell _ _)
  rw [ha]
  exact e1
theorem a_newq (cx : Cx l g p s m args meth c A cc nL own) {index : Nat} {n : Int32} {N : Nat} (r0 : Nat) (h0 : τ r0 = none) (hclink : Cond.classLink own index "java/lang/Object" ∈ TW) (hn : ¬ n < 0) (hN : n.toNatClampNeg = N) (hbytes : N * 4 ≤ 536870912) (hcells : cells + 1 ≤ R.cells) (hslots : slots + N ≤ R.slots) (d : decode cc pc = .ok (.anewarray index, 3))
    (kk : ∀ q : Nat, AW l g p e R s m args below meth c A nL Q (va_up ad r0 q) (va_up τ r0 (some (.inl (g.2.1 3, N, .inr (.inr (.inr (.inr (fun _ => none)))))))) (cells + 1) (slots + N) (pc + 3) lv (.ref q :: st)) : AW l g p e R s m args below meth c A nL Q ad τ cells slots pc lv (.int n :: st) := by
  intro H locs ls i1 i2 i3 i4
  subst hN
  refine W.anew cx.1 cx.2.1 cx.2.2.2.1 (cx.2.2.2.2.1 _ hclink) (va_AO.use cx.2.2.2.2.2.1.2.2.2.2.2.2.2.1) rfl d rfl hn hbytes hcells hslots fun cA kA comp f1 f2 f3 f4 => ?_
  obtain ⟨kA', comp', k1, k2, k3, k4⟩ := ((cx_K cx).2 3 _ rfl).2
  have hcA : cA = g.2.1 3 := Option.some.inj (f1.symm.trans k4)
  subst hcA
  generalize hH1 : H.push ({ cls := g.2.1 3, slots := Array.replicate n.toNatClampNeg .null, vm := .none } : Cell) = H1
  have z1 : H1.size = H.size + 1 := by rw [← hH1, Array.size_push]
  have e1 : H1[H.size]? = some (arrV (g.2.1 3) n.toNatClampNeg (fun _ => .null)) := by rw [← hH1, Array.getElem?_push_size, ← arrV_new]
  have o1 : ∀ q : Nat, q < H.size → H1[q]? = H[q]? := fun q hq => by rw [← hH1, Array.getElem?_push, if_neg (Nat.ne_of_lt hq)]
  refine kk H.size H1 _ ls (aH_push i1 h0 ?_ o1) (aIn_push i2 (cx.2.2.2.2.2.2.1 _ i3.1)) ⟨Nat.le_trans i3.1 (by omega), fun x h1 h2 => (o1 x (Nat.lt_of_lt_of_le h1 i3.1)).trans (i3.2.1 x h1 h2), i3.2.2⟩ i4
  show H1[H.size]? = some (vp_cell _ _)
  rw [vp_cell_q]
  exact e1
theorem a_objInit (cx : Cx l g p s m args meth c A cc nL own) {idx a : Nat} (hl : Cond.methodLink own idx objectInit ∈ TW) (hRf : 1 ≤ R.frames) (hst : (st.map fun v => v.category).sum + 12 ≤ R.locals) (d : decode cc pc = .ok (.invokespecial idx, 3)) (kk : AW l g p e R s m args below meth c A nL Q ad τ cells slots (pc + 3) lv st) : AW l g p e R s m args below meth c A nL Q ad τ cells slots pc lv (.ref a :: st) := fun H locs ls i1 i2 i3 i4 =>
  W.objInit cx.1 cx.2.1 cx.2.2.2.1 (cx.2.2.2.2.1 _ hl) (cx.2.2.2.2.1 _ im_objectInit) (cx.2.2.2.2.1 _ cd_objectInit) rfl (i4.1.trans cx.2.2.1.symm) rfl d hRf (by simp only [F0, JFrame.monitorRoom] at *; simpa using hst) (kk H locs ls i1 i2 i3 i4)
end BROWS
end
section
section CROWS
variable {l : Launch} {g : GW} {p : Program} {e : Env} {R : Room} {s : State} {m : MethodId} {args : Array Value} {below : List Frame} {meth : Method} {c : Code} {A : Nat → Prop} {cc : ByteArray} {nL : Nat} {own : String} {Q : State → Prop} {ad : AD} {τ : RH} {cells slots pc : Nat} {lv : LV} {st : List Value}
variable {P : Option Value → AD → RH → Prop} {X : String → AD → RH → Prop}
/-- behind a call: its return, or its exception, in abstract frames -/
theorem a_back (cx : Cx l g p s m args meth c A cc nL own) {H : Heap} {locs : List Loc} {ls : Array Slot} {mc ms : Nat} {a : Array Value} {st0 rest : List Value} (i1 : aH g ad τ H) (i2 : aIn ad τ A) (i3 : va_S A s.heap H locs) (i4 : lH ls nL lv)
    (hr : vx_Run p l e R s m args below meth c H locs cells slots mc ms (F0 m pc ls st0) rest (aQ g P (aA ad τ H.size) a) (aX g X (aA ad τ H.size)) (aA ad τ H.size))
    (kx : ∀ E ad' τ', X E ad' τ' → AX l g p e R s m args below meth c A nL Q ad' τ' (cells + mc) (slots + ms) pc lv E)
    (kk : ∀ v ad' τ', P v ad' τ' → AW l g p e R s m args below meth c A nL Q ad' τ' (cells + mc) (slots + ms) (pc + 3) lv (v.toList ++ rest)) : W p l e R s m args below meth c H locs cells slots Q (F0 m pc ls st0) := by
  have hs := aA_sub cx i2 i3
  intro T hT X9
  rcases hr T hT X9 with ⟨v, st₀, t, T', L, h0, X', hL, e1, e2, ⟨⟨v', ad', τ', hv, hp, hh, hin⟩, hF⟩, stp⟩ | ⟨q, st₀, t, T', L, E, ce, h0, X', hL, e1, e2, ⟨⟨ad', τ', hx, hh, hin⟩, hF⟩, hce, hcv, hcl, stp⟩
  · cases hv
    obtain ⟨k1, k2, k3⟩ := vx_keep h0 e1 i3 (fun q _ h => hs q h) hs hL hF
    obtain ⟨t2, a1, b1⟩ := kk v ad' τ' hp T'.heap (locs ++ L) ls (by rw [e1]; exact hh) (fun r e9 h9 => hs _ (hin r e9 h9)) k3 i4 T' rfl X'
    exact ⟨t2, stp t2 a1, b1⟩
  · obtain ⟨k1, k2, k3⟩ := vx_keep h0 e1 i3 (fun q _ h => hs q h) hs hL hF
    obtain ⟨t2, a1, b1⟩ := kx E ad' τ' hx T'.heap (locs ++ L) ls ce q rest (by rw [e1]; exact hh) (fun r e9 h9 => hs _ (hin r e9 h9)) k3 i4 (by rw [e1]; exact hce) hcv hcl T' rfl X'
    exact ⟨t2, stp.trans a1, b1⟩
theorem a_callV (cx : Cx l g p s m args meth c A cc nL own) {C : String} {T : u_T} {N ci index maxL mc ms r : Nat} {y : MethodName} {bytes : ByteArray} {ret : Option FieldType} {rm : Room} {As st0 rest fs : List Value} (n : Nat)
    (sp : Sp l g y (.code y bytes maxL ret) rm (.ref (ad r) :: As) ad τ mc ms P X) (hτ : τ r = some (.inr (ci, fs))) (hc : vwCl[ci]? = some (C, T, N))
    (h1 : Cond.methodLink own index y ∈ TW) (h2 : Cond.instanceMethod y ∈ TW) (h3 : Cond.selects C y y ∈ TW) (h4 : Cond.initialized C ∈ TW) (h5 : Cond.code y bytes maxL ret ∈ TW)
    (hst : st0 = As.reverse ++ .ref (ad r) :: rest) (hn : As.length = n) (hd : y.cls = C ∧ y.cls ≠ "java/lang/invoke/MethodHandle" ∧ y.cls ≠ "java/lang/invoke/VarHandle" ∧ (parseMethodDescriptor y.desc).map (fun d => d.parameters.length) = some n)
    (hrc : rm.cells = mc) (hrs : rm.slots = ms) (hR : rm.frames + 1 ≤ R.frames ∧ 8 + (maxL + 11) + rm.locals ≤ R.locals) (hW : (rest.map fun v => v.category).sum ≤ 8) (d : decode cc pc = .ok (.invokevirtual index, 3)) (hf : cells + mc ≤ R.cells ∧ slots + ms ≤ R.slots)
    (kx : ∀ E ad' τ', X E ad' τ' → AX l g p e R s m args below meth c A nL Q ad' τ' (cells + mc) (slots + ms) pc lv E)
    (kk : ∀ v ad' τ', P v ad' τ' → AW l g p e R s m args below meth c A nL Q ad' τ' (cells + mc) (slots + ms) (pc + 3) lv (v.toList ++ rest)) : AW l g p e R s m args below meth c A nL Q ad τ cells slots pc lv st0 := by
  intro H locs ls i1 i2 i3 i4
  subst hst
  exact a_back cx i1 i2 i3 i4 (vx_runV (As := As) (rest := rest) (g := F0 m pc ls (As.reverse ++ .ref (ad r) :: rest)) ⟨cx.1, cx.2.1, cx.2.2.1, cx.2.2.2.1, cx.2.2.2.2.1⟩ (sp cx.2.2.2.2.2.2.2.2 H.size) (cwV n cx.2.2.2.2.1 (gi_V h1 h2 h3 h4 h5) rfl hrc hrs hd hR) ⟨aPc_blind, va_recv (cx_K cx) (aW1 (i1.1 r _ hτ)) (q0 := 0) hc rfl, aPc_of cx i1 i2 i3 (.ref (ad r) :: As)⟩ rfl hn i4.1 rfl (lv_room hW) d hf) kx kk
theorem a_callS (cx : Cx l g p s m args meth c A cc nL own) {index maxL mc ms : Nat} {y : MethodName} {bytes : ByteArray} {ret : Option FieldType} {rm : Room} {As st0 rest : List Value} (n : Nat)
    (sp : Sp l g y (.code y bytes maxL ret) rm As ad τ mc ms P X)
    (h1 : Cond.methodLink own index y ∈ TW) (h2 : Cond.static y ∈ TW) (h4 : Cond.initialized y.cls ∈ TW) (h5 : Cond.code y bytes maxL ret ∈ TW)
    (hst : st0 = As.reverse ++ rest) (hn : As.length = n) (hd : y.cls ≠ "java/lang/invoke/MethodHandle" ∧ y.cls ≠ "java/lang/invoke/VarHandle" ∧ (parseMethodDescriptor y.desc).map (fun d => d.parameters.length) = some n)
    (hrc : rm.cells = mc) (hrs : rm.slots = ms) (hR : rm.frames + 1 ≤ R.frames ∧ 8 + (maxL + 11) + rm.locals ≤ R.locals) (hW : (rest.map fun v => v.category).sum ≤ 8) (d : decode cc pc = .ok (.invokestatic index, 3)) (hf : cells + mc ≤ R.cells ∧ slots + ms ≤ R.slots)
    (kx : ∀ E ad' τ', X E ad' τ' → AX l g p e R s m args below meth c A nL Q ad' τ' (cells + mc) (slots + ms) pc lv E)
    (kk : ∀ v ad' τ', P v ad' τ' → AW l g p e R s m args below meth c A nL Q ad' τ' (cells + mc) (slots + ms) (pc + 3) lv (v.toList ++ rest)) : AW l g p e R s m args below meth c A nL Q ad τ cells slots pc lv st0 := by
  intro H locs ls i1 i2 i3 i4
  subst hst
  exact a_back cx i1 i2 i3 i4 (vx_runS (As := As) (rest := rest) (g := F0 m pc ls (As.reverse ++ rest)) ⟨cx.1, cx.2.1, cx.2.2.1, cx.2.2.2.1, cx.2.2.2.2.1⟩ (sp cx.2.2.2.2.2.2.2.2 H.size) (va_cwS n cx.2.2.2.2.1 (gi_S h1 h2 h4 h5) rfl hrc hrs hd hR) ⟨aPc_blind, aPc_of cx i1 i2 i3 As⟩ rfl hn i4.1 rfl (lv_room hW) d hf) kx kk
theorem a_callSH (cx : Cx l g p s m args meth c A cc nL own) {index maxL mc ms : Nat} {y : MethodName} {bytes : ByteArray} {ret : Option FieldType} {hh : List (Nat × Nat × Nat × Nat)} {rm : Room} {As st0 rest : List Value} (n : Nat)
    (sp : Sp l g y (.codeWith y bytes maxL ret hh) rm As ad τ mc ms P X)
    (h1 : Cond.methodLink own index y ∈ TW) (h2 : Cond.static y ∈ TW) (h4 : Cond.initialized y.cls ∈ TW) (h5 : Cond.codeWith y bytes maxL ret hh ∈ TW)
    (hst : st0 = As.reverse ++ rest) (hn : As.length = n) (hd : y.cls ≠ "java/lang/invoke/MethodHandle" ∧ y.cls ≠ "java/lang/invoke/VarHandle" ∧ (parseMethodDescriptor y.desc).map (fun d => d.parameters.length) = some n)
    (hrc : rm.cells = mc) (hrs : rm.slots = ms) (hR : rm.frames + 1 ≤ R.frames ∧ 8 + (maxL + 11) + rm.locals ≤ R.locals) (hW : (rest.map fun v => v.category).sum ≤ 8) (d : decode cc pc = .ok (.invokestatic index, 3)) (hf : cells + mc ≤ R.cells ∧ slots + ms ≤ R.slots)
    (kx : ∀ E ad' τ', X E ad' τ' → AX l g p e R s m args below meth c A nL Q ad' τ' (cells + mc) (slots + ms) pc lv E)
    (kk : ∀ v ad' τ', P v ad' τ' → AW l g p e R s m args below meth c A nL Q ad' τ' (cells + mc) (slots + ms) (pc + 3) lv (v.toList ++ rest)) : AW l g p e R s m args below meth c A nL Q ad τ cells slots pc lv st0 := by
  intro H locs ls i1 i2 i3 i4
  subst hst
  exact a_back cx i1 i2 i3 i4 (vx_runSX (hh := hh) (As := As) (rest := rest) (g := F0 m pc ls (As.reverse ++ rest)) ⟨cx.1, cx.2.1, cx.2.2.1, cx.2.2.2.1, cx.2.2.2.2.1⟩ (sp cx.2.2.2.2.2.2.2.2 H.size) (vx_cwSW n cx.2.2.2.2.1 (gi_S h1 h2 h4 h5) rfl hrc hrs hd hR) ⟨aPc_blind, aPc_of cx i1 i2 i3 As⟩ rfl hn i4.1 rfl (lv_room hW) d hf) kx kk
/-- a contract that throws nothing, in the kit's own form -/
theorem Sp.met {y : MethodName} {cw : Cond} {rm : Room} {As : List Value} {mc ms : Nat} (sp : Sp l g y cw rm As ad τ mc ms P (fun _ _ _ => False)) (hl : l.stackTraces = false) (sz : Nat) : Met l y (cw :: TW) rm (aPc g As ad τ sz) (aQ g P (aA ad τ sz)) mc ms (aA ad τ sz) := by
  have h := sp hl sz
  intro p e ha hc hk s m args below hf happ hP hW
  obtain ⟨k, o, h1, h2, h3, h4⟩ := h p e ha hc hk s m args below hf happ hP hW
  rcases h4 with h4 | ⟨q, -, E, ce, L, ⟨⟨_, _, hx, -⟩, -⟩, -⟩
  · exact ⟨k, o, h1, h2, h3, h4⟩
  · exact hx.elim
theorem a_backM (cx : Cx l g p s m args meth c A cc nL own) {H : Heap} {locs : List Loc} {ls : Array Slot} {mc ms : Nat} {a : Array Value} {st0 rest : List Value} (i1 : aH g ad τ H) (i2 : aIn ad τ A) (i3 : va_S A s.heap H locs) (i4 : lH ls nL lv)
    (hr : va_Run p l e R s m args below meth c H locs cells slots mc ms (F0 m pc ls st0) rest (aQ g P (aA ad τ H.size) a) (aA ad τ H.size))
    (kk : ∀ v ad' τ', P v ad' τ' → AW l g p e R s m args below meth c A nL Q ad' τ' (cells + mc) (slots + ms) (pc + 3) lv (v.toList ++ rest)) : W p l e R s m args below meth c H locs cells slots Q (F0 m pc ls st0) := by
  have hs := aA_sub cx i2 i3
  intro T hT X9
  obtain ⟨v, st₀, t, T', L, h0, X', hL, e1, e2, ⟨⟨v', ad', τ', hv, hp, hh, hin⟩, hF⟩, stp⟩ := hr T hT X9
  cases hv
  obtain ⟨k1, k2, k3⟩ := vx_keep h0 e1 i3 (fun q _ h => hs q h) hs hL hF
  obtain ⟨t2, a1, b1⟩ := kk v ad' τ' hp T'.heap (locs ++ L) ls (by rw [e1]; exact hh) (fun r e9 h9 => hs _ (hin r e9 h9)) k3 i4 T' rfl X'
  exact ⟨t2, stp t2 a1, b1⟩
theorem a_callI (cx : Cx l g p s m args meth c A cc nL own) {index maxL mc ms b : Nat} {y : MethodName} {bytes : ByteArray} {rm : Room} {As st0 rest : List Value} (n : Nat)
    (sp : Sp l g y (.code y bytes maxL none) rm (.ref b :: As) ad τ mc ms P (fun _ _ _ => False))
    (h1 : Cond.methodLink own index y ∈ TW) (h2 : Cond.instanceMethod y ∈ TW) (h4 : Cond.initialized y.cls ∈ TW) (h5 : Cond.code y bytes maxL none ∈ TW) (hy1 : y.name = "<init>")
    (hst : st0 = As.reverse ++ .ref b :: rest) (hn : As.length = n) (hd : y.cls ≠ "java/lang/invoke/MethodHandle" ∧ y.cls ≠ "java/lang/invoke/VarHandle" ∧ (parseMethodDescriptor y.desc).map (fun d => d.parameters.length) = some n)
    (hrc : rm.cells = mc) (hrs : rm.slots = ms) (hR : rm.frames + 1 ≤ R.frames ∧ 8 + (maxL + 11) + rm.locals ≤ R.locals) (hW : (rest.map fun v => v.category).sum ≤ 8) (d : decode cc pc = .ok (.invokespecial index, 3)) (hf : cells + mc ≤ R.cells ∧ slots + ms ≤ R.slots)
    (kk : ∀ v ad' τ', P v ad' τ' → AW l g p e R s m args below meth c A nL Q ad' τ' (cells + mc) (slots + ms) (pc + 3) lv (v.toList ++ rest)) : AW l g p e R s m args below meth c A nL Q ad τ cells slots pc lv st0 := by
  intro H locs ls i1 i2 i3 i4
  subst hst
  have hts := cx.2.2.2.2.1
  exact a_backM cx i1 i2 i3 i4 (va_runI (As := As) (rest := rest) (g := F0 m pc ls (As.reverse ++ .ref b :: rest)) ⟨cx.1, cx.2.1, cx.2.2.1, cx.2.2.2.1, cx.2.2.2.2.1⟩ (sp.met cx.2.2.2.2.2.2.2.2 H.size) (cwI n hts (gi_I h5) rfl hrc hrs (hts _ h4) (hts _ h1) (hts _ h2) hy1 hd hR) ⟨aPc_blind, aPc_of cx i1 i2 i3 (.ref b :: As)⟩ rfl hn i4.1 rfl (lv_room hW) d hf) kk
/-- .. of a nest mate's private constructor -/
theorem a_callIN (cx : Cx l g p s m args meth c A cc nL own) {index maxL mc ms b : Nat} {host : String} {y : MethodName} {bytes : ByteArray} {rm : Room} {As st0 rest : List Value} (n : Nat)
    (sp : Sp l g y (.code y bytes maxL none) rm (.ref b :: As) ad τ mc ms P (fun _ _ _ => False))
    (h1 : Cond.methodLinkNest own index y host ∈ BW) (h2 : Cond.instanceMethod y ∈ TW) (h4 : Cond.initialized y.cls ∈ TW) (h5 : Cond.code y bytes maxL none ∈ TW) (hy1 : y.name = "<init>")
    (hst : st0 = As.reverse ++ .ref b :: rest) (hn : As.length = n) (hd : y.cls ≠ "java/lang/invoke/MethodHandle" ∧ y.cls ≠ "java/lang/invoke/VarHandle" ∧ (parseMethodDescriptor y.desc).map (fun d => d.parameters.length) = some n)
    (hrc : rm.cells = mc) (hrs : rm.slots = ms) (hR : rm.frames + 1 ≤ R.frames ∧ 8 + (maxL + 11) + rm.locals ≤ R.locals) (hW : (rest.map fun v => v.category).sum ≤ 8) (d : decode cc pc = .ok (.invokespecial index, 3)) (hf : cells + mc ≤ R.cells ∧ slots + ms ≤ R.slots)
    (kk : ∀ v ad' τ', P v ad' τ' → AW l g p e R s m args below meth c A nL Q ad' τ' (cells + mc) (slots + ms) (pc + 3) lv (v.toList ++ rest)) : AW l g p e R s m args below meth c A nL Q ad τ cells slots pc lv st0 := by
  intro H locs ls i1 i2 i3 i4
  subst hst
  have hts := cx.2.2.2.2.1
  exact a_backM cx i1 i2 i3 i4 (va_runIN (As := As) (rest := rest) (g := F0 m pc ls (As.reverse ++ .ref b :: rest)) ⟨cx.1, cx.2.1, cx.2.2.1, cx.2.2.2.1, cx.2.2.2.2.1⟩ (sp.met cx.2.2.2.2.2.2.2.2 H.size) ⟨va_cnB n hts (gi_I h5) rfl hrc hrs (cx.2.2.2.2.2.1.2.2.2.2.2.1 _ h1) (hts _ h4) hd hR, hy1, hts _ h2⟩ ⟨aPc_blind, aPc_of cx i1 i2 i3 (.ref b :: As)⟩ rfl hn i4.1 rfl (lv_room hW) d hf) kk
section ENDS
variable {mc ms : Nat}
theorem a_iret (cx : Cx l g p s m args meth c A cc nL own) {v : Int32} (hr : meth.sig.returnType = some .int) (d : decode cc pc = .ok (.ireturn, 1)) (hc : cells ≤ mc) (hs : slots ≤ ms) (hP : P (some (.int v)) ad τ) : AW l g p e R s m args below meth c A nL (vx_MQ below (aQ g P A) (aX g X A) args s mc ms A) ad τ cells slots pc lv [.int v] := fun H locs ls i1 i2 i3 i4 =>
  W.widen hc hs (vx_ret (W.iret cx.1 cx.2.1 hr (fun t ht hW => ⟨⟨_, ad, τ, rfl, hP, by rw [ht]; exact i1, i2⟩, i3.F ht⟩) i3.2.2 d cx.2.2.2.2.2.2.2.1))
theorem a_zret (cx : Cx l g p s m args meth c A cc nL own) {v : Int32} {ty : FieldType} (hr : meth.sig.returnType = some ty) (d : decode cc pc = .ok (.ireturn, 1)) (hn : narrow ty (.int v) = .int v) (hc : cells ≤ mc) (hs : slots ≤ ms) (hP : P (some (.int v)) ad τ) : AW l g p e R s m args below meth c A nL (vx_MQ below (aQ g P A) (aX g X A) args s mc ms A) ad τ cells slots pc lv [.int v] := fun H locs ls i1 i2 i3 i4 =>
  W.widen hc hs (vx_ret (W.zret cx.1 cx.2.1 hr hn (fun t ht hW => ⟨⟨_, ad, τ, rfl, hP, by rw [ht]; exact i1, i2⟩, i3.F ht⟩) i3.2.2 d cx.2.2.2.2.2.2.2.1))
theorem a_aret (cx : Cx l g p s m args meth c A cc nL own) {v : Value} {ty : FieldType} (hr : meth.sig.returnType = some ty) (d : decode cc pc = .ok (.areturn, 1)) (hrt : (∃ n, ty = .object n) ∨ ∃ t, ty = .array t) (hv : v = .null ∨ ∃ a, v = .ref a) (hc : cells ≤ mc) (hs : slots ≤ ms) (hP : P (some v) ad τ) : AW l g p e R s m args below meth c A nL (vx_MQ below (aQ g P A) (aX g X A) args s mc ms A) ad τ cells slots pc lv [v] := fun H locs ls i1 i2 i3 i4 =>
  W.widen hc hs (vx_ret (W.aret cx.1 cx.2.1 hr hrt hv (fun t ht hW => ⟨⟨_, ad, τ, rfl, hP, by rw [ht]; exact i1, i2⟩, i3.F ht⟩) i3.2.2 d cx.2.2.2.2.2.2.2.1))
theorem a_vret (cx : Cx l g p s m args meth c A cc nL own) (hr : meth.sig.returnType = none) (d : decode cc pc = .ok (.return_, 1)) (hc : cells ≤ mc) (hs : slots ≤ ms) (hP : P none ad τ) : AW l g p e R s m args below meth c A nL (vx_MQ below (aQ g P A) (aX g X A) args s mc ms A) ad τ cells slots pc lv [] := fun H locs ls i1 i2 i3 i4 =>
  W.widen hc hs (vx_ret (W.vret cx.1 cx.2.1 hr (fun t ht hW => ⟨⟨_, ad, τ, rfl, hP, by rw [ht]; exact i1, i2⟩, i3.F ht⟩) i3.2.2 d cx.2.2.2.2.2.2.2.1))
theorem a_fret (cx : Cx l g p s m args meth c A cc nL own) {v : UInt32} (hr : meth.sig.returnType = some .float) (d : decode cc pc = .ok (.freturn, 1)) (hc : cells ≤ mc) (hs : slots ≤ ms) (hP : P (some (.float v)) ad τ) : AW l g p e R s m args below meth c A nL (vx_MQ below (aQ g P A) (aX g X A) args s mc ms A) ad τ cells slots pc lv [.float v] := fun H locs ls i1 i2 i3 i4 =>
  W.widen hc hs (vx_ret (W.fret cx.1 cx.2.1 hr (fun t ht hW => ⟨⟨_, ad, τ, rfl, hP, by rw [ht]; exact i1, i2⟩, i3.F ht⟩) i3.2.2 d cx.2.2.2.2.2.2.2.1))
theorem a_dret (cx : Cx l g p s m args meth c A cc nL own) {v : UInt64} (hr : meth.sig.returnType = some .double) (d : decode cc pc = .ok (.dreturn, 1)) (hc : cells ≤ mc) (hs : slots ≤ ms) (hP : P (some (.double v)) ad τ) : AW l g p e R s m args below meth c A nL (vx_MQ below (aQ g P A) (aX g X A) args s mc ms A) ad τ cells slots pc lv [.double v] := fun H locs ls i1 i2 i3 i4 =>
  W.widen hc hs (vx_ret (W.dret cx.1 cx.2.1 hr (fun t ht hW => ⟨⟨_, ad, τ, rfl, hP, by rw [ht]; exact i1, i2⟩, i3.F ht⟩) i3.2.2 d cx.2.2.2.2.2.2.2.1))
/-- an exception that this method doesn't catch -/
theorem a_out (cx : Cx l g p s m args meth c A cc nL own) {E : String} (hout : ∀ x ∈ c.exceptionTable.toList, False) (hc : cells ≤ mc) (hs : slots ≤ ms) (hX : X E ad τ) : AX l g p e R s m args below meth c A nL (vx_MQ below (aQ g P A) (aX g X A) args s mc ms A) ad τ cells slots pc lv E := fun H locs ls ce q rest i1 i2 i3 i4 i5 i6 i7 =>
  vx_out (fun x hx => (hout x hx).elim) cx.2.2.2.2.2.2.2.1 i5 i6 i7 (fun t ht hW => ⟨⟨ad, τ, hX, by rw [ht]; exact i1, i2⟩, i3.F ht⟩) i3.2.2 hc hs
/-- 'throw new E("text")' -/
theorem a_throw (cx : Cx l g p s m args meth c A cc nL own) {cls : String} (text : String) (names : List String) {ik is ic : Nat} (hout : ∀ x ∈ c.exceptionTable.toList, False) (hcls : Bundle.fit cls = true) (hnames : ∀ n ∈ names, Bundle.fit n = true)
    (hk : Cond.classLink own ik cls ∈ TW) (hini : Cond.initialized cls ∈ TW) (hat : ∀ w ∈ vx_atS own ic cls names, w ∈ TW ∨ w ∈ BW) (hgood : ∀ w ∈ vx_atS own ic cls names, vx_ot w = true) (htx : (own, is, text) ∈ SL)
    (d0 : decode cc pc = .ok (.new ik, 3)) (d3 : decode cc (pc + 3) = .ok (.dup, 1)) (d4 : decode cc (pc + 4) = .ok (.ldc is, 2)) (d6 : decode cc (pc + 6) = .ok (.invokespecial ic, 3)) (d9 : decode cc (pc + 9) = .ok (.athrow, 1))
    (hRf : names.length + 3 < R.frames) (hRl : (st.map fun v => v.category).sum + (13 * (names.length + 1) + 43) ≤ R.locals) (hRc : cells + 1 ≤ R.cells) (hRs : slots + 6 ≤ R.slots) (hc : cells + 1 ≤ mc) (hs : slots + 6 ≤ ms) (hX : X cls ad τ) : AW l g p e R s m args below meth c A nL (vx_MQ below (aQ g P A) (aX g X A) args s mc ms A) ad τ cells slots pc lv st := by
  intro H locs ls i1 i2 i3 i4
  have hts := cx.2.2.2.2.1
  have hG := cx.2.2.2.2.2.1
  obtain ⟨sa, hsa⟩ := hG.2.2.2.2.2.2.1 _ htx
  have hbw : ∀ w ∈ BW, w.onTables = true := fun w hw => by
    have hb := (List.mem_filter.mp hw).2
    cases w <;> first | rfl | (simp [bw_is] at hb)
  refine vx_throwS (names := names) (sa := sa) (text := text) cx.1 cx.2.1 cx.2.2.2.2.2.2.2.2 cx.2.2.2.1 hcls hnames (hts _ hk) (hts _ hini) hsa (fun w hw => ?_) (fun w hw => ?_) hG.2.1 hG.2.2.1 i3 (i4.1.trans cx.2.2.1.symm) d0 d3 d4 d6 d9 (fun x hx => (hout x hx).elim) hRf hRl hRc hRs cx.2.2.2.2.2.2.2.1 (fun t hv hz hq => ⟨⟨ad, τ, hX, aH_kept i1 hq, i2⟩, Nat.le_trans i3.1 hz, fun q h1 h2 => (hq q (Nat.lt_of_lt_of_le h1 i3.1)).trans (i3.2.1 q h1 h2)⟩) i3.2.2 hc hs
  · rcases hat w hw with h | h
    · exact hts w h
    · exact va_Nw.use (hbw w h) (hG.2.2.2.2.2.1 w h)
  · rcases List.mem_cons.mp hw with rfl | hw
    · rfl
    · rcases List.mem_cons.mp hw with rfl | hw
      · rfl
      · exact hgood w hw
end ENDS
/-- caught here -/
theorem a_catch (cx : Cx l g p s m args meth c A cc nL own) {E name : String} (pre : List ExceptionTableEntry) (x : ExceptionTableEntry) (suf : List ExceptionTableEntry) (hsplit : c.exceptionTable.toList = pre ++ x :: suf)
    (hpass : ∀ z ∈ pre, covers z pc = false ∨ (z.catchType ≠ 0 ∧ ∃ nm : String, Cond.classLink own z.catchType nm ∈ TW ∧ (E, nm) ∈ NC)) (hx : covers x pc = true) (h0 : x.catchType ≠ 0) (hlink : Cond.classLink own x.catchType name ∈ TW) (hcast : Cond.castable E name ∈ BW)
    (kk : ∀ q : Nat, AW l g p e R s m args below meth c A nL Q ad τ cells slots x.handlerPc lv [.ref q]) : AX l g p e R s m args below meth c A nL Q ad τ cells slots pc lv E := fun H locs ls ce q rest i1 i2 i3 i4 i5 i6 i7 =>
  vx_catch cx.2.2.2.1 pre x suf hsplit (fun z hz => (hpass z hz).elim Or.inl (fun ⟨h1, nm, h2, h3⟩ => Or.inr ⟨h1, nm, cx.2.2.2.2.1 _ h2, cx.2.2.2.2.2.1.2.2.2.2.2.2.2.2.1 _ h3⟩)) hx h0 (cx.2.2.2.2.1 _ hlink) (va_Nw.use rfl (cx.2.2.2.2.2.1.2.2.2.2.2.1 _ hcast)) i5 i6 i7 (kk q H locs ls i1 i2 i3 i4)
end CROWS
end
section
section FROWS
variable {l : Launch} {g : GW} {p : Program} {e : Env} {R : Room} {s : State} {m : MethodId} {args : Array Value} {below : List Frame} {meth : Method} {c : Code} {A : Nat → Prop} {cc : ByteArray} {nL : Nat} {Q : State → Prop} {ad : AD} {τ : RH} {cells slots pc : Nat} {lv : LV} {st : List Value}
theorem nz_b {x : Int32} (h : x = 0 ∨ x = 1) : narrow .boolean (.int x) = .int x ∧ fits .boolean (.int x) = true := by
  rcases h with rfl | rfl <;> exact ⟨by decide +kernel, by decide +kernel⟩
theorem gf_Jx4a65c_9 (cx : Cx l g p s m args meth c A cc nL RJx4a65c) {r : Nat} {v0 v1 v2 : Value} (hτ : τ r = some (.inr (2, [v0, v1, v2]))) (d : decode cc pc = .ok (.getfield 9, 3)) (kk : AW l g p e R s m args below meth c A nL Q ad τ cells slots (pc + 3) lv (v1 :: st)) : AW l g p e R s m args below meth c A nL Q ad τ cells slots pc lv (.ref (ad r) :: st) := a_get cx (T := TJx4a65c) 1 uw_Jx4a65c rfl (by decide) fl_Jx4a65c_9 (fun _ h9 => h9) hτ rfl d kk
theorem pf_Jx4a65c_9 (cx : Cx l g p s m args meth c A cc nL RJx4a65c) {r : Nat} {x : Nat} {v0 v1 v2 : Value} (hτ : τ r = some (.inr (2, [v0, v1, v2]))) (d : decode cc pc = .ok (.putfield 9, 3)) (kk : AW l g p e R s m args below meth c A nL Q ad (va_up τ r (some (.inr (2, [v0, .ref x, v2])))) cells slots (pc + 3) lv st) : AW l g p e R s m args below meth c A nL Q ad τ cells slots pc lv (.ref x :: .ref (ad r) :: st) := a_put cx (T := TJx4a65c) 1 uw_Jx4a65c tyJx4a65c tyJx4a65c_ok nmJx4a65c rfl (by decide) fl_Jx4a65c_9 (fun _ h9 => h9) rfl hτ rfl rfl (by decide : 1 < 3) d kk
theorem gf_Jx4a65c_48 (cx : Cx l g p s m args meth c A cc nL RJx4a65c) {r : Nat} {v0 v1 v2 : Value} (hτ : τ r = some (.inr (2, [v0, v1, v2]))) (d : decode cc pc = .ok (.getfield 48, 3)) (kk : AW l g p e R s m args below meth c A nL Q ad τ cells slots (pc + 3) lv (v2 :: st)) : AW l g p e R s m args below meth c A nL Q ad τ cells slots pc lv (.ref (ad r) :: st) := a_get cx (T := TJx4a65c) 2 uw_Jx4a65c rfl (by decide) fl_Jx4a65c_48 (fun _ h9 => h9) hτ rfl d kk
theorem pf_Jx4a65c_48 (cx : Cx l g p s m args meth c A cc nL RJx4a65c) {r : Nat} {x : Int32} {v0 v1 v2 : Value} (hτ : τ r = some (.inr (2, [v0, v1, v2]))) (d : decode cc pc = .ok (.putfield 48, 3)) (kk : AW l g p e R s m args below meth c A nL Q ad (va_up τ r (some (.inr (2, [v0, v1, .int x])))) cells slots (pc + 3) lv st) : AW l g p e R s m args below meth c A nL Q ad τ cells slots pc lv (.int x :: .ref (ad r) :: st) := a_put cx (T := TJx4a65c) 2 uw_Jx4a65c tyJx4a65c tyJx4a65c_ok nmJx4a65c rfl (by decide) fl_Jx4a65c_48 (fun _ h9 => h9) rfl hτ rfl rfl (by decide : 2 < 3) d kk
theorem gf_Jxc12de_7 (cx : Cx l g p s m args meth c A cc nL RJxc12de) {r : Nat} {v0 v1 v2 : Value} (hτ : τ r = some (.inr (2, [v0, v1, v2]))) (d : decode cc pc = .ok (.getfield 7, 3)) (kk : AW l g p e R s m args below meth c A nL Q ad τ cells slots (pc + 3) lv (v0 :: st)) : AW l g p e R s m args below meth c A nL Q ad τ cells slots pc lv (.ref (ad r) :: st) := a_get cx (T := TJx4a65c) 0 uw_Jx4a65c rfl (by decide) fl_Jxc12de_7 (fun _ h9 => h9) hτ rfl d kk
theorem pf_Jxc12de_7 (cx : Cx l g p s m args meth c A cc nL RJxc12de) {r : Nat} {x : Int32} {v0 v1 v2 : Value} (hτ : τ r = some (.inr (2, [v0, v1, v2]))) (d : decode cc pc = .ok (.putfield 7, 3)) (kk : AW l g p e R s m args below meth c A nL Q ad (va_up τ r (some (.inr (2, [.int x, v1, v2])))) cells slots (pc + 3) lv st) : AW l g p e R s m args below meth c A nL Q ad τ cells slots pc lv (.int x :: .ref (ad r) :: st) := a_put cx (T := TJx4a65c) 0 uw_Jx4a65c tyJx4a65c tyJx4a65c_ok nmJx4a65c rfl (by decide) fl_Jxc12de_7 (fun _ h9 => h9) rfl hτ rfl rfl (by decide : 0 < 3) d kk
theorem gf_Jx4a65c_63 (cx : Cx l g p s m args meth c A cc nL RJx4a65c) {r : Nat} {v0 v1 v2 : Value} (hτ : τ r = some (.inr (2, [v0, v1, v2]))) (d : decode cc pc = .ok (.getfield 63, 3)) (kk : AW l g p e R s m args below meth c A nL Q ad τ cells slots (pc + 3) lv (v0 :: st)) : AW l g p e R s m args below meth c A nL Q ad τ cells slots pc lv (.ref (ad r) :: st) := a_get cx (T := TJx4a65c) 0 uw_Jx4a65c rfl (by decide) fl_Jx4a65c_63 (u_same (cx.2.2.2.2.1 _ sf_modCount)) hτ rfl d kk
theorem pf_Jx4a65c_63 (cx : Cx l g p s m args meth c A cc nL RJx4a65c) {r : Nat} {x : Int32} {v0 v1 v2 : Value} (hτ : τ r = some (.inr (2, [v0, v1, v2]))) (d : decode cc pc = .ok (.putfield 63, 3)) (kk : AW l g p e R s m args below meth c A nL Q ad (va_up τ r (some (.inr (2, [.int x, v1, v2])))) cells slots (pc + 3) lv st) : AW l g p e R s m args below meth c A nL Q ad τ cells slots pc lv (.int x :: .ref (ad r) :: st) := a_put cx (T := TJx4a65c) 0 uw_Jx4a65c tyJx4a65c tyJx4a65c_ok nmJx4a65c rfl (by decide) fl_Jx4a65c_63 (u_same (cx.2.2.2.2.1 _ sf_modCount)) rfl hτ rfl rfl (by decide : 0 < 3) d kk
theorem gf_X3_10 (cx : Cx l g p s m args meth c A cc nL RX3) {r : Nat} {v0 v1 v2 v3 v4 : Value} (hτ : τ r = some (.inr (6, [v0, v1, v2, v3, v4]))) (d : decode cc pc = .ok (.getfield 10, 3)) (kk : AW l g p e R s m args below meth c A nL Q ad τ cells slots (pc + 3) lv (v0 :: st)) : AW l g p e R s m args below meth c A nL Q ad τ cells slots pc lv (.ref (ad r) :: st) := a_get cx (T := TX3) 0 uw_X3 rfl (by decide) fl_X3_10 (fun _ h9 => h9) hτ rfl d kk
theorem pf_X3_10 (cx : Cx l g p s m args meth c A cc nL RX3) (hin : meth.name = "<init>") {r : Nat} {x : Nat} {v0 v1 v2 v3 v4 : Value} (hτ : τ r = some (.inr (6, [v0, v1, v2, v3, v4]))) (d : decode cc pc = .ok (.putfield 10, 3)) (kk : AW l g p e R s m args below meth c A nL Q ad (va_up τ r (some (.inr (6, [.ref x, v1, v2, v3, v4])))) cells slots (pc + 3) lv st) : AW l g p e R s m args below meth c A nL Q ad τ cells slots pc lv (.ref x :: .ref (ad r) :: st) := a_putF cx (T := TX3) 0 uw_X3 tyX3 tyX3_ok nmX3 rfl (by decide) fl_X3_10 (fun _ h9 => h9) rfl rfl hin hτ rfl rfl (by decide : 0 < 5) d kk
theorem gf_X3_16 (cx : Cx l g p s m args meth c A cc nL RX3) {r : Nat} {v0 v1 v2 v3 v4 : Value} (hτ : τ r = some (.inr (6, [v0, v1, v2, v3, v4]))) (d : decode cc pc = .ok (.getfield 16, 3)) (kk : AW l g p e R s m args below meth c A nL Q ad τ cells slots (pc + 3) lv (v1 :: st)) : AW l g p e R s m args below meth c A nL Q ad τ cells slots pc lv (.ref (ad r) :: st) := a_get cx (T := TX3) 1 uw_X3 rfl (by decide) fl_X3_16 (fun _ h9 => h9) hτ rfl d kk
theorem pf_X3_16 (cx : Cx l g p s m args meth c A cc nL RX3) (hin : meth.name = "<init>") {r : Nat} {x : Nat} {v0 v1 v2 v3 v4 : Value} (hτ : τ r = some (.inr (6, [v0, v1, v2, v3, v4]))) (d : decode cc pc = .ok (.putfield 16, 3)) (kk : AW l g p e R s m args below meth c A nL Q ad (va_up τ r (some (.inr (6, [v0, .ref x, v2, v3, v4])))) cells slots (pc + 3) lv st) : AW l g p e R s m args below meth c A nL Q ad τ cells slots pc lv (.ref x :: .ref (ad r) :: st) := a_putF cx (T := TX3) 1 uw_X3 tyX3 tyX3_ok nmX3 rfl (by decide) fl_X3_16 (fun _ h9 => h9) rfl rfl hin hτ rfl rfl (by decide : 1 < 5) d kk
theorem gf_X3_19 (cx : Cx l g p s m args meth c A cc nL RX3) {r : Nat} {v0 v1 v2 v3 v4 : Value} (hτ : τ r = some (.inr (6, [v0, v1, v2, v3, v4]))) (d : decode cc pc = .ok (.getfield 19, 3)) (kk : AW l g p e R s m args below meth c A nL Q ad τ cells slots (pc + 3) lv (v2 :: st)) : AW l g p e R s m args below meth c A nL Q ad τ cells slots pc lv (.ref (ad r) :: st) := a_get cx (T := TX3) 2 uw_X3 rfl (by decide) fl_X3_19 (fun _ h9 => h9) hτ rfl d kk
theorem pf_X3_19 (cx : Cx l g p s m args meth c A cc nL RX3) (hin : meth.name = "<init>") {r : Nat} {x : Nat} {v0 v1 v2 v3 v4 : Value} (hτ : τ r = some (.inr (6, [v0, v1, v2, v3, v4]))) (d : decode cc pc = .ok (.putfield 19, 3)) (kk : AW l g p e R s m args below meth c A nL Q ad (va_up τ r (some (.inr (6, [v0, v1, .ref x, v3, v4])))) cells slots (pc + 3) lv st) : AW l g p e R s m args below meth c A nL Q ad τ cells slots pc lv (.ref x :: .ref (ad r) :: st) := a_putF cx (T := TX3) 2 uw_X3 tyX3 tyX3_ok nmX3 rfl (by decide) fl_X3_19 (fun _ h9 => h9) rfl rfl hin hτ rfl rfl (by decide : 2 < 5) d kk
theorem gf_X3_23 (cx : Cx l g p s m args meth c A cc nL RX3) {r : Nat} {v0 v1 v2 v3 v4 : Value} (hτ : τ r = some (.inr (6, [v0, v1, v2, v3, v4]))) (d : decode cc pc = .ok (.getfield 23, 3)) (kk : AW l g p e R s m args below meth c A nL Q ad τ cells slots (pc + 3) lv (v3 :: st)) : AW l g p e R s m args below meth c A nL Q ad τ cells slots pc lv (.ref (ad r) :: st) := a_get cx (T := TX3) 3 uw_X3 rfl (by decide) fl_X3_23 (fun _ h9 => h9) hτ rfl d kk
theorem pf_X3_23 (cx : Cx l g p s m args meth c A cc nL RX3) (hin : meth.name = "<init>") {r : Nat} {x : Nat} {v0 v1 v2 v3 v4 : Value} (hτ : τ r = some (.inr (6, [v0, v1, v2, v3, v4]))) (d : decode cc pc = .ok (.putfield 23, 3)) (kk : AW l g p e R s m args below meth c A nL Q ad (va_up τ r (some (.inr (6, [v0, v1, v2, .ref x, v4])))) cells slots (pc + 3) lv st) : AW l g p e R s m args below meth c A nL Q ad τ cells slots pc lv (.ref x :: .ref (ad r) :: st) := a_putF cx (T := TX3) 3 uw_X3 tyX3 tyX3_ok nmX3 rfl (by decide) fl_X3_23 (fun _ h9 => h9) rfl rfl hin hτ rfl rfl (by decide : 3 < 5) d kk
theorem gf_X3_26 (cx : Cx l g p s m args meth c A cc nL RX3) {r : Nat} {v0 v1 v2 v3 v4 : Value} (hτ : τ r = some (.inr (6, [v0, v1, v2, v3, v4]))) (d : decode cc pc = .ok (.getfield 26, 3)) (kk : AW l g p e R s m args below meth c A nL Q ad τ cells slots (pc + 3) lv (v4 :: st)) : AW l g p e R s m args below meth c A nL Q ad τ cells slots pc lv (.ref (ad r) :: st) := a_get cx (T := TX3) 4 uw_X3 rfl (by decide) fl_X3_26 (fun _ h9 => h9) hτ rfl d kk
theorem pf_X3_26 (cx : Cx l g p s m args meth c A cc nL RX3) {r : Nat} {x : Int32} {v0 v1 v2 v3 v4 : Value} (hτ : τ r = some (.inr (6, [v0, v1, v2, v3, v4]))) (d : decode cc pc = .ok (.putfield 26, 3)) (kk : AW l g p e R s m args below meth c A nL Q ad (va_up τ r (some (.inr (6, [v0, v1, v2, v3, .int x])))) cells slots (pc + 3) lv st) : AW l g p e R s m args below meth c A nL Q ad τ cells slots pc lv (.int x :: .ref (ad r) :: st) := a_put cx (T := TX3) 4 uw_X3 tyX3 tyX3_ok nmX3 rfl (by decide) fl_X3_26 (fun _ h9 => h9) rfl hτ rfl rfl (by decide : 4 < 5) d kk
theorem gf_X1_9 (cx : Cx l g p s m args meth c A cc nL RX1) {r : Nat} {v0 v1 v2 : Value} (hτ : τ r = some (.inr (4, [v0, v1, v2]))) (d : decode cc pc = .ok (.getfield 9, 3)) (kk : AW l g p e R s m args below meth c A nL Q ad τ cells slots (pc + 3) lv (v0 :: st)) : AW l g p e R s m args below meth c A nL Q ad τ cells slots pc lv (.ref (ad r) :: st) := a_get cx (T := TX1) 0 uw_X1 rfl (by decide) fl_X1_9 (fun _ h9 => h9) hτ rfl d kk
theorem pf_X1_9 (cx : Cx l g p s m args meth c A cc nL RX1) (hin : meth.name = "<init>") {r : Nat} {x : Nat} {v0 v1 v2 : Value} (hτ : τ r = some (.inr (4, [v0, v1, v2]))) (d : decode cc pc = .ok (.putfield 9, 3)) (kk : AW l g p e R s m args below meth c A nL Q ad (va_up τ r (some (.inr (4, [.ref x, v1, v2])))) cells slots (pc + 3) lv st) : AW l g p e R s m args below meth c A nL Q ad τ cells slots pc lv (.ref x :: .ref (ad r) :: st) := a_putF cx (T := TX1) 0 uw_X1 tyX1 tyX1_ok nmX1 rfl (by decide) fl_X1_9 (fun _ h9 => h9) rfl rfl hin hτ rfl rfl (by decide : 0 < 3) d kk
theorem gf_X1_15 (cx : Cx l g p s m args meth c A cc nL RX1) {r : Nat} {v0 v1 v2 : Value} (hτ : τ r = some (.inr (4, [v0, v1, v2]))) (d : decode cc pc = .ok (.getfield 15, 3)) (kk : AW l g p e R s m args below meth c A nL Q ad τ cells slots (pc + 3) lv (v1 :: st)) : AW l g p e R s m args below meth c A nL Q ad τ cells slots pc lv (.ref (ad r) :: st) := a_get cx (T := TX1) 1 uw_X1 rfl (by decide) fl_X1_15 (fun _ h9 => h9) hτ rfl d kk
theorem pf_X1_15 (cx : Cx l g p s m args meth c A cc nL RX1) {r : Nat} {x : Int32} {v0 v1 v2 : Value} (hτ : τ r = some (.inr (4, [v0, v1, v2]))) (d : decode cc pc = .ok (.putfield 15, 3)) (kk : AW l g p e R s m args below meth c A nL Q ad (va_up τ r (some (.inr (4, [v0, .int x, v2])))) cells slots (pc + 3) lv st) : AW l g p e R s m args below meth c A nL Q ad τ cells slots pc lv (.int x :: .ref (ad r) :: st) := a_put cx (T := TX1) 1 uw_X1 tyX1 tyX1_ok nmX1 rfl (by decide) fl_X1_15 (fun _ h9 => h9) rfl hτ rfl rfl (by decide : 1 < 3) d kk
theorem gf_X1_19 (cx : Cx l g p s m args meth c A cc nL RX1) {r : Nat} {v0 v1 v2 : Value} (hτ : τ r = some (.inr (4, [v0, v1, v2]))) (d : decode cc pc = .ok (.getfield 19, 3)) (kk : AW l g p e R s m args below meth c A nL Q ad τ cells slots (pc + 3) lv (v2 :: st)) : AW l g p e R s m args below meth c A nL Q ad τ cells slots pc lv (.ref (ad r) :: st) := a_get cx (T := TX1) 2 uw_X1 rfl (by decide) fl_X1_19 (fun _ h9 => h9) hτ rfl d kk
theorem pf_X1_19 (cx : Cx l g p s m args meth c A cc nL RX1) {r : Nat} {x : Int32} {v0 v1 v2 : Value} (hτ : τ r = some (.inr (4, [v0, v1, v2]))) (d : decode cc pc = .ok (.putfield 19, 3)) (kk : AW l g p e R s m args below meth c A nL Q ad (va_up τ r (some (.inr (4, [v0, v1, .int x])))) cells slots (pc + 3) lv st) : AW l g p e R s m args below meth c A nL Q ad τ cells slots pc lv (.int x :: .ref (ad r) :: st) := a_put cx (T := TX1) 2 uw_X1 tyX1 tyX1_ok nmX1 rfl (by decide) fl_X1_19 (fun _ h9 => h9) rfl hτ rfl rfl (by decide : 2 < 3) d kk
theorem gf_X3_104 (cx : Cx l g p s m args meth c A cc nL RX3) {r : Nat} {v0 v1 v2 : Value} (hτ : τ r = some (.inr (4, [v0, v1, v2]))) (d : decode cc pc = .ok (.getfield 104, 3)) (kk : AW l g p e R s m args below meth c A nL Q ad τ cells slots (pc + 3) lv (v2 :: st)) : AW l g p e R s m args below meth c A nL Q ad τ cells slots pc lv (.ref (ad r) :: st) := a_get cx (T := TX1) 2 uw_X1 rfl (by decide) fl_X3_104 (fun _ h9 => h9) hτ rfl d kk
theorem pf_X3_104 (cx : Cx l g p s m args meth c A cc nL RX3) {r : Nat} {x : Int32} {v0 v1 v2 : Value} (hτ : τ r = some (.inr (4, [v0, v1, v2]))) (d : decode cc pc = .ok (.putfield 104, 3)) (kk : AW l g p e R s m args below meth c A nL Q ad (va_up τ r (some (.inr (4, [v0, v1, .int x])))) cells slots (pc + 3) lv st) : AW l g p e R s m args below meth c A nL Q ad τ cells slots pc lv (.int x :: .ref (ad r) :: st) := a_put cx (T := TX1) 2 uw_X1 tyX1 tyX1_ok nmX1 rfl (by decide) fl_X3_104 (fun _ h9 => h9) rfl hτ rfl rfl (by decide : 2 < 3) d kk
theorem gf_X0_49 (cx : Cx l g p s m args meth c A cc nL RX0) {r : Nat} {v0 v1 v2 v3 v4 v5 v6 v7 v8 v9 v10 : Value} (hτ : τ r = some (.inr (3, [v0, v1, v2, v3, v4, v5, v6, v7, v8, v9, v10]))) (d : decode cc pc = .ok (.getfield 49, 3)) (kk : AW l g p e R s m args below meth c A nL Q ad τ cells slots (pc + 3) lv (v0 :: st)) : AW l g p e R s m args below meth c A nL Q ad τ cells slots pc lv (.ref (ad r) :: st) := a_get cx (T := TX0) 0 uw_X0 rfl (by decide) fl_X0_49 (fun _ h9 => h9) hτ rfl d kk
theorem pf_X0_49 (cx : Cx l g p s m args meth c A cc nL RX0) (hin : meth.name = "<init>") {r : Nat} {x : Int32} {v0 v1 v2 v3 v4 v5 v6 v7 v8 v9 v10 : Value} (hτ : τ r = some (.inr (3, [v0, v1, v2, v3, v4, v5, v6, v7, v8, v9, v10]))) (d : decode cc pc = .ok (.putfield 49, 3)) (kk : AW l g p e R s m args below meth c A nL Q ad (va_up τ r (some (.inr (3, [.int x, v1, v2, v3, v4, v5, v6, v7, v8, v9, v10])))) cells slots (pc + 3) lv st) : AW l g p e R s m args below meth c A nL Q ad τ cells slots pc lv (.int x :: .ref (ad r) :: st) := a_putF cx (T := TX0) 0 uw_X0 tyX0 tyX0_ok nmX0 rfl (by decide) fl_X0_49 (fun _ h9 => h9) rfl rfl hin hτ rfl rfl (by decide : 0 < 11) d kk
theorem gf_X0_52 (cx : Cx l g p s m args meth c A cc nL RX0) {r : Nat} {v0 v1 v2 v3 v4 v5 v6 v7 v8 v9 v10 : Value} (hτ : τ r = some (.inr (3, [v0, v1, v2, v3, v4, v5, v6, v7, v8, v9, v10]))) (d : decode cc pc = .ok (.getfield 52, 3)) (kk : AW l g p e R s m args below meth c A nL Q ad τ cells slots (pc + 3) lv (v1 :: st)) : AW l g p e R s m args below meth c A nL Q ad τ cells slots pc lv (.ref (ad r) :: st) := a_get cx (T := TX0) 1 uw_X0 rfl (by decide) fl_X0_52 (fun _ h9 => h9) hτ rfl d kk
theorem pf_X0_52 (cx : Cx l g p s m args meth c A cc nL RX0) (hin : meth.name = "<init>") {r : Nat} {x : Int32} {v0 v1 v2 v3 v4 v5 v6 v7 v8 v9 v10 : Value} (hτ : τ r = some (.inr (3, [v0, v1, v2, v3, v4, v5, v6, v7, v8, v9, v10]))) (d : decode cc pc = .ok (.putfield 52, 3)) (kk : AW l g p e R s m args below meth c A nL Q ad (va_up τ r (some (.inr (3, [v0, .int x, v2, v3, v4, v5, v6, v7, v8, v9, v10])))) cells slots (pc + 3) lv st) : AW l g p e R s m args below meth c A nL Q ad τ cells slots pc lv (.int x :: .ref (ad r) :: st) := a_putF cx (T := TX0) 1 uw_X0 tyX0 tyX0_ok nmX0 rfl (by decide) fl_X0_52 (fun _ h9 => h9) rfl rfl hin hτ rfl rfl (by decide : 1 < 11) d kk
theorem gf_X3_259 (cx : Cx l g p s m args meth c A cc nL RX3) {r : Nat} {v0 v1 v2 v3 v4 v5 v6 v7 v8 v9 v10 : Value} (hτ : τ r = some (.inr (3, [v0, v1, v2, v3, v4, v5, v6, v7, v8, v9, v10]))) (d : decode cc pc = .ok (.getfield 259, 3)) (kk : AW l g p e R s m args below meth c A nL Q ad τ cells slots (pc + 3) lv (v1 :: st)) : AW l g p e R s m args below meth c A nL Q ad τ cells slots pc lv (.ref (ad r) :: st) := a_get cx (T := TX0) 1 uw_X0 rfl (by decide) fl_X3_259 (fun _ h9 => h9) hτ rfl d kk
theorem gf_X0_12 (cx : Cx l g p s m args meth c A cc nL RX0) {r : Nat} {v0 v1 v2 v3 v4 v5 v6 v7 v8 v9 v10 : Value} (hτ : τ r = some (.inr (3, [v0, v1, v2, v3, v4, v5, v6, v7, v8, v9, v10]))) (d : decode cc pc = .ok (.getfield 12, 3)) (kk : AW l g p e R s m args below meth c A nL Q ad τ cells slots (pc + 3) lv (v2 :: st)) : AW l g p e R s m args below meth c A nL Q ad τ cells slots pc lv (.ref (ad r) :: st) := a_get cx (T := TX0) 2 uw_X0 rfl (by decide) fl_X0_12 (fun _ h9 => h9) hτ rfl d kk
theorem pf_X0_12 (cx : Cx l g p s m args meth c A cc nL RX0) (hin : meth.name = "<init>") {r : Nat} {x : Nat} {v0 v1 v2 v3 v4 v5 v6 v7 v8 v9 v10 : Value} (hτ : τ r = some (.inr (3, [v0, v1, v2, v3, v4, v5, v6, v7, v8, v9, v10]))) (d : decode cc pc = .ok (.putfield 12, 3)) (kk : AW l g p e R s m args below meth c A nL Q ad (va_up τ r (some (.inr (3, [v0, v1, .ref x, v3, v4, v5, v6, v7, v8, v9, v10])))) cells slots (pc + 3) lv st) : AW l g p e R s m args below meth c A nL Q ad τ cells slots pc lv (.ref x :: .ref (ad r) :: st) := a_putF cx (T := TX0) 2 uw_X0 tyX0 tyX0_ok nmX0 rfl (by decide) fl_X0_12 (fun _ h9 => h9) rfl rfl hin hτ rfl rfl (by decide : 2 < 11) d kk
theorem gf_X3_95 (cx : Cx l g p s m args meth c A cc nL RX3) {r : Nat} {v0 v1 v2 v3 v4 v5 v6 v7 v8 v9 v10 : Value} (hτ : τ r = some (.inr (3, [v0, v1, v2, v3, v4, v5, v6, v7, v8, v9, v10]))) (d : decode cc pc = .ok (.getfield 95, 3)) (kk : AW l g p e R s m args below meth c A nL Q ad τ cells slots (pc + 3) lv (v2 :: st)) : AW l g p e R s m args below meth c A nL Q ad τ cells slots pc lv (.ref (ad r) :: st) := a_get cx (T := TX0) 2 uw_X0 rfl (by decide) fl_X3_95 (fun _ h9 => h9) hτ rfl d kk
theorem gf_X0_21 (cx : Cx l g p s m args meth c A cc nL RX0) {r : Nat} {v0 v1 v2 v3 v4 v5 v6 v7 v8 v9 v10 : Value} (hτ : τ r = some (.inr (3, [v0, v1, v2, v3, v4, v5, v6, v7, v8, v9, v10]))) (d : decode cc pc = .ok (.getfield 21, 3)) (kk : AW l g p e R s m args below meth c A nL Q ad τ cells slots (pc + 3) lv (v3 :: st)) : AW l g p e R s m args below meth c A nL Q ad τ cells slots pc lv (.ref (ad r) :: st) := a_get cx (T := TX0) 3 uw_X0 rfl (by decide) fl_X0_21 (fun _ h9 => h9) hτ rfl d kk
theorem pf_X0_21 (cx : Cx l g p s m args meth c A cc nL RX0) (hin : meth.name = "<init>") {r : Nat} {x : Nat} {v0 v1 v2 v3 v4 v5 v6 v7 v8 v9 v10 : Value} (hτ : τ r = some (.inr (3, [v0, v1, v2, v3, v4, v5, v6, v7, v8, v9, v10]))) (d : decode cc pc = .ok (.putfield 21, 3)) (kk : AW l g p e R s m args below meth c A nL Q ad (va_up τ r (some (.inr (3, [v0, v1, v2, .ref x, v4, v5, v6, v7, v8, v9, v10])))) cells slots (pc + 3) lv st) : AW l g p e R s m args below meth c A nL Q ad τ cells slots pc lv (.ref x :: .ref (ad r) :: st) := a_putF cx (T := TX0) 3 uw_X0 tyX0 tyX0_ok nmX0 rfl (by decide) fl_X0_21 (fun _ h9 => h9) rfl rfl hin hτ rfl rfl (by decide : 3 < 11) d kk
theorem gf_X3_100 (cx : Cx l g p s m args meth c A cc nL RX3) {r : Nat} {v0 v1 v2 v3 v4 v5 v6 v7 v8 v9 v10 : Value} (hτ : τ r = some (.inr (3, [v0, v1, v2, v3, v4, v5, v6, v7, v8, v9, v10]))) (d : decode cc pc = .ok (.getfield 100, 3)) (kk : AW l g p e R s m args below meth c A nL Q ad τ cells slots (pc + 3) lv (v3 :: st)) : AW l g p e R s m args below meth c A nL Q ad τ cells slots pc lv (.ref (ad r) :: st) := a_get cx (T := TX0) 3 uw_X0 rfl (by decide) fl_X3_100 (fun _ h9 => h9) hτ rfl d kk
theorem gf_X0_25 (cx : Cx l g p s m args meth c A cc nL RX0) {r : Nat} {v0 v1 v2 v3 v4 v5 v6 v7 v8 v9 v10 : Value} (hτ : τ r = some (.inr (3, [v0, v1, v2, v3, v4, v5, v6, v7, v8, v9, v10]))) (d : decode cc pc = .ok (.getfield 25, 3)) (kk : AW l g p e R s m args below meth c A nL Q ad τ cells slots (pc + 3) lv (v4 :: st)) : AW l g p e R s m args below meth c A nL Q ad τ cells slots pc lv (.ref (ad r) :: st) := a_get cx (T := TX0) 4 uw_X0 rfl (by decide) fl_X0_25 (fun _ h9 => h9) hτ rfl d kk
theorem pf_X0_25 (cx : Cx l g p s m args meth c A cc nL RX0) (hin : meth.name = "<init>") {r : Nat} {x : Nat} {v0 v1 v2 v3 v4 v5 v6 v7 v8 v9 v10 : Value} (hτ : τ r = some (.inr (3, [v0, v1, v2, v3, v4, v5, v6, v7, v8, v9, v10]))) (d : decode cc pc = .ok (.putfield 25, 3)) (kk : AW l g p e R s m args below meth c A nL Q ad (va_up τ r (some (.inr (3, [v0, v1, v2, v3, .ref x, v5, v6, v7, v8, v9, v10])))) cells slots (pc + 3) lv st) : AW l g p e R s m args below meth c A nL Q ad τ cells slots pc lv (.ref x :: .ref (ad r) :: st) := a_putF cx (T := TX0) 4 uw_X0 tyX0 tyX0_ok nmX0 rfl (by decide) fl_X0_25 (fun _ h9 => h9) rfl rfl hin hτ rfl rfl (by decide : 4 < 11) d kk
theorem gf_X3_190 (cx : Cx l g p s m args meth c A cc nL RX3) {r : Nat} {v0 v1 v2 v3 v4 v5 v6 v7 v8 v9 v10 : Value} (hτ : τ r = some (.inr (3, [v0, v1, v2, v3, v4, v5, v6, v7, v8, v9, v10]))) (d : decode cc pc = .ok (.getfield 190, 3)) (kk : AW l g p e R s m args below meth c A nL Q ad τ cells slots (pc + 3) lv (v4 :: st)) : AW l g p e R s m args below meth c A nL Q ad τ cells slots pc lv (.ref (ad r) :: st) := a_get cx (T := TX0) 4 uw_X0 rfl (by decide) fl_X3_190 (fun _ h9 => h9) hτ rfl d kk
theorem gf_X0_28 (cx : Cx l g p s m args meth c A cc nL RX0) {r : Nat} {v0 v1 v2 v3 v4 v5 v6 v7 v8 v9 v10 : Value} (hτ : τ r = some (.inr (3, [v0, v1, v2, v3, v4, v5, v6, v7, v8, v9, v10]))) (d : decode cc pc = .ok (.getfield 28, 3)) (kk : AW l g p e R s m args below meth c A nL Q ad τ cells slots (pc + 3) lv (v5 :: st)) : AW l g p e R s m args below meth c A nL Q ad τ cells slots pc lv (.ref (ad r) :: st) := a_get cx (T := TX0) 5 uw_X0 rfl (by decide) fl_X0_28 (fun _ h9 => h9) hτ rfl d kk
theorem pf_X0_28 (cx : Cx l g p s m args meth c A cc nL RX0) (hin : meth.name = "<init>") {r : Nat} {x : Nat} {v0 v1 v2 v3 v4 v5 v6 v7 v8 v9 v10 : Value} (hτ : τ r = some (.inr (3, [v0, v1, v2, v3, v4, v5, v6, v7, v8, v9, v10]))) (d : decode cc pc = .ok (.putfield 28, 3)) (kk : AW l g p e R s m args below meth c A nL Q ad (va_up τ r (some (.inr (3, [v0, v1, v2, v3, v4, .ref x, v6, v7, v8, v9, v10])))) cells slots (pc + 3) lv st) : AW l g p e R s m args below meth c A nL Q ad τ cells slots pc lv (.ref x :: .ref (ad r) :: st) := a_putF cx (T := TX0) 5 uw_X0 tyX0 tyX0_ok nmX0 rfl (by decide) fl_X0_28 (fun _ h9 => h9) rfl rfl hin hτ rfl rfl (by decide : 5 < 11) d kk
theorem gf_X0_32 (cx : Cx l g p s m args meth c A cc nL RX0) {r : Nat} {v0 v1 v2 v3 v4 v5 v6 v7 v8 v9 v10 : Value} (hτ : τ r = some (.inr (3, [v0, v1, v2, v3, v4, v5, v6, v7, v8, v9, v10]))) (d : decode cc pc = .ok (.getfield 32, 3)) (kk : AW l g p e R s m args below meth c A nL Q ad τ cells slots (pc + 3) lv (v6 :: st)) : AW l g p e R s m args below meth c A nL Q ad τ cells slots pc lv (.ref (ad r) :: st) := a_get cx (T := TX0) 6 uw_X0 rfl (by decide) fl_X0_32 (fun _ h9 => h9) hτ rfl d kk
theorem pf_X0_32 (cx : Cx l g p s m args meth c A cc nL RX0) {r : Nat} {x : Int32} {v0 v1 v2 v3 v4 v5 v6 v7 v8 v9 v10 : Value} (hτ : τ r = some (.inr (3, [v0, v1, v2, v3, v4, v5, v6, v7, v8, v9, v10]))) (d : decode cc pc = .ok (.putfield 32, 3)) (kk : AW l g p e R s m args below meth c A nL Q ad (va_up τ r (some (.inr (3, [v0, v1, v2, v3, v4, v5, .int x, v7, v8, v9, v10])))) cells slots (pc + 3) lv st) : AW l g p e R s m args below meth c A nL Q ad τ cells slots pc lv (.int x :: .ref (ad r) :: st) := a_put cx (T := TX0) 6 uw_X0 tyX0 tyX0_ok nmX0 rfl (by decide) fl_X0_32 (fun _ h9 => h9) rfl hτ rfl rfl (by decide : 6 < 11) d kk
theorem gf_X0_36 (cx : Cx l g p s m args meth c A cc nL RX0) {r : Nat} {v0 v1 v2 v3 v4 v5 v6 v7 v8 v9 v10 : Value} (hτ : τ r = some (.inr (3, [v0, v1, v2, v3, v4, v5, v6, v7, v8, v9, v10]))) (d : decode cc pc = .ok (.getfield 36, 3)) (kk : AW l g p e R s m args below meth c A nL Q ad τ cells slots (pc + 3) lv (v7 :: st)) : AW l g p e R s m args below meth c A nL Q ad τ cells slots pc lv (.ref (ad r) :: st) := a_get cx (T := TX0) 7 uw_X0 rfl (by decide) fl_X0_36 (fun _ h9 => h9) hτ rfl d kk
theorem pf_X0_36 (cx : Cx l g p s m args meth c A cc nL RX0) {r : Nat} {x : Int32} {v0 v1 v2 v3 v4 v5 v6 v7 v8 v9 v10 : Value} (hτ : τ r = some (.inr (3, [v0, v1, v2, v3, v4, v5, v6, v7, v8, v9, v10]))) (d : decode cc pc = .ok (.putfield 36, 3)) (kk : AW l g p e R s m args below meth c A nL Q ad (va_up τ r (some (.inr (3, [v0, v1, v2, v3, v4, v5, v6, .int x, v8, v9, v10])))) cells slots (pc + 3) lv st) : AW l g p e R s m args below meth c A nL Q ad τ cells slots pc lv (.int x :: .ref (ad r) :: st) := a_put cx (T := TX0) 7 uw_X0 tyX0 tyX0_ok nmX0 rfl (by decide) fl_X0_36 (fun _ h9 => h9) rfl hτ rfl rfl (by decide : 7 < 11) d kk
theorem gf_X3_67 (cx : Cx l g p s m args meth c A cc nL RX3) {r : Nat} {v0 v1 v2 v3 v4 v5 v6 v7 v8 v9 v10 : Value} (hτ : τ r = some (.inr (3, [v0, v1, v2, v3, v4, v5, v6, v7, v8, v9, v10]))) (d : decode cc pc = .ok (.getfield 67, 3)) (kk : AW l g p e R s m args below meth c A nL Q ad τ cells slots (pc + 3) lv (v7 :: st)) : AW l g p e R s m args below meth c A nL Q ad τ cells slots pc lv (.ref (ad r) :: st) := a_get cx (T := TX0) 7 uw_X0 rfl (by decide) fl_X3_67 (fun _ h9 => h9) hτ rfl d kk
theorem pf_X3_67 (cx : Cx l g p s m args meth c A cc nL RX3) {r : Nat} {x : Int32} {v0 v1 v2 v3 v4 v5 v6 v7 v8 v9 v10 : Value} (hτ : τ r = some (.inr (3, [v0, v1, v2, v3, v4, v5, v6, v7, v8, v9, v10]))) (d : decode cc pc = .ok (.putfield 67, 3)) (kk : AW l g p e R s m args below meth c A nL Q ad (va_up τ r (some (.inr (3, [v0, v1, v2, v3, v4, v5, v6, .int x, v8, v9, v10])))) cells slots (pc + 3) lv st) : AW l g p e R s m args below meth c A nL Q ad τ cells slots pc lv (.int x :: .ref (ad r) :: st) := a_put cx (T := TX0) 7 uw_X0 tyX0 tyX0_ok nmX0 rfl (by decide) fl_X3_67 (fun _ h9 => h9) rfl hτ rfl rfl (by decide : 7 < 11) d kk
theorem gf_X0_39 (cx : Cx l g p s m args meth c A cc nL RX0) {r : Nat} {v0 v1 v2 v3 v4 v5 v6 v7 v8 v9 v10 : Value} (hτ : τ r = some (.inr (3, [v0, v1, v2, v3, v4, v5, v6, v7, v8, v9, v10]))) (d : decode cc pc = .ok (.getfield 39, 3)) (kk : AW l g p e R s m args below meth c A nL Q ad τ cells slots (pc + 3) lv (v8 :: st)) : AW l g p e R s m args below meth c A nL Q ad τ cells slots pc lv (.ref (ad r) :: st) := a_get cx (T := TX0) 8 uw_X0 rfl (by decide) fl_X0_39 (fun _ h9 => h9) hτ rfl d kk
theorem pf_X0_39 (cx : Cx l g p s m args meth c A cc nL RX0) {r : Nat} {x : Int32} {v0 v1 v2 v3 v4 v5 v6 v7 v8 v9 v10 : Value} (hτ : τ r = some (.inr (3, [v0, v1, v2, v3, v4, v5, v6, v7, v8, v9, v10]))) (d : decode cc pc = .ok (.putfield 39, 3)) (kk : AW l g p e R s m args below meth c A nL Q ad (va_up τ r (some (.inr (3, [v0, v1, v2, v3, v4, v5, v6, v7, .int x, v9, v10])))) cells slots (pc + 3) lv st) : AW l g p e R s m args below meth c A nL Q ad τ cells slots pc lv (.int x :: .ref (ad r) :: st) := a_put cx (T := TX0) 8 uw_X0 tyX0 tyX0_ok nmX0 rfl (by decide) fl_X0_39 (fun _ h9 => h9) rfl hτ rfl rfl (by decide : 8 < 11) d kk
theorem gf_X3_176 (cx : Cx l g p s m args meth c A cc nL RX3) {r : Nat} {v0 v1 v2 v3 v4 v5 v6 v7 v8 v9 v10 : Value} (hτ : τ r = some (.inr (3, [v0, v1, v2, v3, v4, v5, v6, v7, v8, v9, v10]))) (d : decode cc pc = .ok (.getfield 176, 3)) (kk : AW l g p e R s m args below meth c A nL Q ad τ cells slots (pc + 3) lv (v8 :: st)) : AW l g p e R s m args below meth c A nL Q ad τ cells slots pc lv (.ref (ad r) :: st) := a_get cx (T := TX0) 8 uw_X0 rfl (by decide) fl_X3_176 (fun _ h9 => h9) hτ rfl d kk
theorem pf_X3_176 (cx : Cx l g p s m args meth c A cc nL RX3) {r : Nat} {x : Int32} {v0 v1 v2 v3 v4 v5 v6 v7 v8 v9 v10 : Value} (hτ : τ r = some (.inr (3, [v0, v1, v2, v3, v4, v5, v6, v7, v8, v9, v10]))) (d : decode cc pc = .ok (.putfield 176, 3)) (kk : AW l g p e R s m args below meth c A nL Q ad (va_up τ r (some (.inr (3, [v0, v1, v2, v3, v4, v5, v6, v7, .int x, v9, v10])))) cells slots (pc + 3) lv st) : AW l g p e R s m args below meth c A nL Q ad τ cells slots pc lv (.int x :: .ref (ad r) :: st) := a_put cx (T := TX0) 8 uw_X0 tyX0 tyX0_ok nmX0 rfl (by decide) fl_X3_176 (fun _ h9 => h9) rfl hτ rfl rfl (by decide : 8 < 11) d kk
theorem gf_X0_42 (cx : Cx l g p s m args meth c A cc nL RX0) {r : Nat} {v0 v1 v2 v3 v4 v5 v6 v7 v8 v9 v10 : Value} (hτ : τ r = some (.inr (3, [v0, v1, v2, v3, v4, v5, v6, v7, v8, v9, v10]))) (d : decode cc pc = .ok (.getfield 42, 3)) (kk : AW l g p e R s m args below meth c A nL Q ad τ cells slots (pc + 3) lv (v9 :: st)) : AW l g p e R s m args below meth c A nL Q ad τ cells slots pc lv (.ref (ad r) :: st) := a_get cx (T := TX0) 9 uw_X0 rfl (by decide) fl_X0_42 (fun _ h9 => h9) hτ rfl d kk
theorem pf_X0_42 (cx : Cx l g p s m args meth c A cc nL RX0) {r : Nat} {x : Int32} {v0 v1 v2 v3 v4 v5 v6 v7 v8 v9 v10 : Value} (hτ : τ r = some (.inr (3, [v0, v1, v2, v3, v4, v5, v6, v7, v8, v9, v10]))) (hx : x = 0 ∨ x = 1) (d : decode cc pc = .ok (.putfield 42, 3)) (kk : AW l g p e R s m args below meth c A nL Q ad (va_up τ r (some (.inr (3, [v0, v1, v2, v3, v4, v5, v6, v7, v8, .int x, v10])))) cells slots (pc + 3) lv st) : AW l g p e R s m args below meth c A nL Q ad τ cells slots pc lv (.int x :: .ref (ad r) :: st) := a_put cx (T := TX0) 9 uw_X0 tyX0 tyX0_ok nmX0 rfl (by decide) fl_X0_42 (fun _ h9 => h9) rfl hτ (nz_b hx).1 (nz_b hx).2 (by decide : 9 < 11) d kk
theorem gf_X3_78 (cx : Cx l g p s m args meth c A cc nL RX3) {r : Nat} {v0 v1 v2 v3 v4 v5 v6 v7 v8 v9 v10 : Value} (hτ : τ r = some (.inr (3, [v0, v1, v2, v3, v4, v5, v6, v7, v8, v9, v10]))) (d : decode cc pc = .ok (.getfield 78, 3)) (kk : AW l g p e R s m args below meth c A nL Q ad τ cells slots (pc + 3) lv (v9 :: st)) : AW l g p e R s m args below meth c A nL Q ad τ cells slots pc lv (.ref (ad r) :: st) := a_get cx (T := TX0) 9 uw_X0 rfl (by decide) fl_X3_78 (fun _ h9 => h9) hτ rfl d kk
theorem pf_X3_78 (cx : Cx l g p s m args meth c A cc nL RX3) {r : Nat} {x : Int32} {v0 v1 v2 v3 v4 v5 v6 v7 v8 v9 v10 : Value} (hτ : τ r = some (.inr (3, [v0, v1, v2, v3, v4, v5, v6, v7, v8, v9, v10]))) (hx : x = 0 ∨ x = 1) (d : decode cc pc = .ok (.putfield 78, 3)) (kk : AW l g p e R s m args below meth c A nL Q ad (va_up τ r (some (.inr (3, [v0, v1, v2, v3, v4, v5, v6, v7, v8, .int x, v10])))) cells slots (pc + 3) lv st) : AW l g p e R s m args below meth c A nL Q ad τ cells slots pc lv (.int x :: .ref (ad r) :: st) := a_put cx (T := TX0) 9 uw_X0 tyX0 tyX0_ok nmX0 rfl (by decide) fl_X3_78 (fun _ h9 => h9) rfl hτ (nz_b hx).1 (nz_b hx).2 (by decide : 9 < 11) d kk
theorem gf_X0_46 (cx : Cx l g p s m args meth c A cc nL RX0) {r : Nat} {v0 v1 v2 v3 v4 v5 v6 v7 v8 v9 v10 : Value} (hτ : τ r = some (.inr (3, [v0, v1, v2, v3, v4, v5, v6, v7, v8, v9, v10]))) (d : decode cc pc = .ok (.getfield 46, 3)) (kk : AW l g p e R s m args below meth c A nL Q ad τ cells slots (pc + 3) lv (v10 :: st)) : AW l g p e R s m args below meth c A nL Q ad τ cells slots pc lv (.ref (ad r) :: st) := a_get cx (T := TX0) 10 uw_X0 rfl (by decide) fl_X0_46 (fun _ h9 => h9) hτ rfl d kk
theorem pf_X0_46 (cx : Cx l g p s m args meth c A cc nL RX0) {r : Nat} {x : Int32} {v0 v1 v2 v3 v4 v5 v6 v7 v8 v9 v10 : Value} (hτ : τ r = some (.inr (3, [v0, v1, v2, v3, v4, v5, v6, v7, v8, v9, v10]))) (hx : x = 0 ∨ x = 1) (d : decode cc pc = .ok (.putfield 46, 3)) (kk : AW l g p e R s m args below meth c A nL Q ad (va_up τ r (some (.inr (3, [v0, v1, v2, v3, v4, v5, v6, v7, v8, v9, .int x])))) cells slots (pc + 3) lv st) : AW l g p e R s m args below meth c A nL Q ad τ cells slots pc lv (.int x :: .ref (ad r) :: st) := a_put cx (T := TX0) 10 uw_X0 tyX0 tyX0_ok nmX0 rfl (by decide) fl_X0_46 (fun _ h9 => h9) rfl hτ (nz_b hx).1 (nz_b hx).2 (by decide : 10 < 11) d kk
theorem gf_X3_164 (cx : Cx l g p s m args meth c A cc nL RX3) {r : Nat} {v0 v1 v2 v3 v4 v5 v6 v7 v8 v9 v10 : Value} (hτ : τ r = some (.inr (3, [v0, v1, v2, v3, v4, v5, v6, v7, v8, v9, v10]))) (d : decode cc pc = .ok (.getfield 164, 3)) (kk : AW l g p e R s m args below meth c A nL Q ad τ cells slots (pc + 3) lv (v10 :: st)) : AW l g p e R s m args below meth c A nL Q ad τ cells slots pc lv (.ref (ad r) :: st) := a_get cx (T := TX0) 10 uw_X0 rfl (by decide) fl_X3_164 (fun _ h9 => h9) hτ rfl d kk
theorem pf_X3_164 (cx : Cx l g p s m args meth c A cc nL RX3) {r : Nat} {x : Int32} {v0 v1 v2 v3 v4 v5 v6 v7 v8 v9 v10 : Value} (hτ : τ r = some (.inr (3, [v0, v1, v2, v3, v4, v5, v6, v7, v8, v9, v10]))) (hx : x = 0 ∨ x = 1) (d : decode cc pc = .ok (.putfield 164, 3)) (kk : AW l g p e R s m args below meth c A nL Q ad (va_up τ r (some (.inr (3, [v0, v1, v2, v3, v4, v5, v6, v7, v8, v9, .int x])))) cells slots (pc + 3) lv st) : AW l g p e R s m args below meth c A nL Q ad τ cells slots pc lv (.int x :: .ref (ad r) :: st) := a_put cx (T := TX0) 10 uw_X0 tyX0 tyX0_ok nmX0 rfl (by decide) fl_X3_164 (fun _ h9 => h9) rfl hτ (nz_b hx).1 (nz_b hx).2 (by decide : 10 < 11) d kk
theorem gf_X2_34 (cx : Cx l g p s m args meth c A cc nL RX2) {r : Nat} {v0 v1 v2 v3 v4 v5 v6 v7 v8 v9 v10 v11 v12 : Value} (hτ : τ r = some (.inr (5, [v0, v1, v2, v3, v4, v5, v6, v7, v8, v9, v10, v11, v12]))) (d : decode cc pc = .ok (.getfield 34, 3)) (kk : AW l g p e R s m args below meth c A nL Q ad τ cells slots (pc + 3) lv (v0 :: st)) : AW l g p e R s m args below meth c A nL Q ad τ cells slots pc lv (.ref (ad r) :: st) := a_get cx (T := TX2) 0 uw_X2 rfl (by decide) fl_X2_34 (fun _ h9 => h9) hτ rfl d kk
theorem pf_X2_34 (cx : Cx l g p s m args meth c A cc nL RX2) (hin : meth.name = "<init>") {r : Nat} {x : Int32} {v0 v1 v2 v3 v4 v5 v6 v7 v8 v9 v10 v11 v12 : Value} (hτ : τ r = some (.inr (5, [v0, v1, v2, v3, v4, v5, v6, v7, v8, v9, v10, v11, v12]))) (d : decode cc pc = .ok (.putfield 34, 3)) (kk : AW l g p e R s m args below meth c A nL Q ad (va_up τ r (some (.inr (5, [.int x, v1, v2, v3, v4, v5, v6, v7, v8, v9, v10, v11, v12])))) cells slots (pc + 3) lv st) : AW l g p e R s m args below meth c A nL Q ad τ cells slots pc lv (.int x :: .ref (ad r) :: st) := a_putF cx (T := TX2) 0 uw_X2 tyX2 tyX2_ok nmX2 rfl (by decide) fl_X2_34 (fun _ h9 => h9) rfl rfl hin hτ rfl rfl (by decide : 0 < 13) d kk
theorem gf_X3_157 (cx : Cx l g p s m args meth c A cc nL RX3) {r : Nat} {v0 v1 v2 v3 v4 v5 v6 v7 v8 v9 v10 v11 v12 : Value} (hτ : τ r = some (.inr (5, [v0, v1, v2, v3, v4, v5, v6, v7, v8, v9, v10, v11, v12]))) (d : decode cc pc = .ok (.getfield 157, 3)) (kk : AW l g p e R s m args below meth c A nL Q ad τ cells slots (pc + 3) lv (v0 :: st)) : AW l g p e R s m args below meth c A nL Q ad τ cells slots pc lv (.ref (ad r) :: st) := a_get cx (T := TX2) 0 uw_X2 rfl (by decide) fl_X3_157 (fun _ h9 => h9) hτ rfl d kk
theorem gf_X2_37 (cx : Cx l g p s m args meth c A cc nL RX2) {r : Nat} {v0 v1 v2 v3 v4 v5 v6 v7 v8 v9 v10 v11 v12 : Value} (hτ : τ r = some (.inr (5, [v0, v1, v2, v3, v4, v5, v6, v7, v8, v9, v10, v11, v12]))) (d : decode cc pc = .ok (.getfield 37, 3)) (kk : AW l g p e R s m args below meth c A nL Q ad τ cells slots (pc + 3) lv (v1 :: st)) : AW l g p e R s m args below meth c A nL Q ad τ cells slots pc lv (.ref (ad r) :: st) := a_get cx (T := TX2) 1 uw_X2 rfl (by decide) fl_X2_37 (fun _ h9 => h9) hτ rfl d kk
theorem pf_X2_37 (cx : Cx l g p s m args meth c A cc nL RX2) (hin : meth.name = "<init>") {r : Nat} {x : Nat} {v0 v1 v2 v3 v4 v5 v6 v7 v8 v9 v10 v11 v12 : Value} (hτ : τ r = some (.inr (5, [v0, v1, v2, v3, v4, v5, v6, v7, v8, v9, v10, v11, v12]))) (d : decode cc pc = .ok (.putfield 37, 3)) (kk : AW l g p e R s m args below meth c A nL Q ad (va_up τ r (some (.inr (5, [v0, .ref x, v2, v3, v4, v5, v6, v7, v8, v9, v10, v11, v12])))) cells slots (pc + 3) lv st) : AW l g p e R s m args below meth c A nL Q ad τ cells slots pc lv (.ref x :: .ref (ad r) :: st) := a_putF cx (T := TX2) 1 uw_X2 tyX2 tyX2_ok nmX2 rfl (by decide) fl_X2_37 (fun _ h9 => h9) rfl rfl hin hτ rfl rfl (by decide : 1 < 13) d kk
theorem gf_X3_183 (cx : Cx l g p s m args meth c A cc nL RX3) {r : Nat} {v0 v1 v2 v3 v4 v5 v6 v7 v8 v9 v10 v11 v12 : Value} (hτ : τ r = some (.inr (5, [v0, v1, v2, v3, v4, v5, v6, v7, v8, v9, v10, v11, v12]))) (d : decode cc pc = .ok (.getfield 183, 3)) (kk : AW l g p e R s m args below meth c A nL Q ad τ cells slots (pc + 3) lv (v1 :: st)) : AW l g p e R s m args below meth c A nL Q ad τ cells slots pc lv (.ref (ad r) :: st) := a_get cx (T := TX2) 1 uw_X2 rfl (by decide) fl_X3_183 (fun _ h9 => h9) hτ rfl d kk
theorem gf_X2_41 (cx : Cx l g p s m args meth c A cc nL RX2) {r : Nat} {v0 v1 v2 v3 v4 v5 v6 v7 v8 v9 v10 v11 v12 : Value} (hτ : τ r = some (.inr (5, [v0, v1, v2, v3, v4, v5, v6, v7, v8, v9, v10, v11, v12]))) (d : decode cc pc = .ok (.getfield 41, 3)) (kk : AW l g p e R s m args below meth c A nL Q ad τ cells slots (pc + 3) lv (v2 :: st)) : AW l g p e R s m args below meth c A nL Q ad τ cells slots pc lv (.ref (ad r) :: st) := a_get cx (T := TX2) 2 uw_X2 rfl (by decide) fl_X2_41 (fun _ h9 => h9) hτ rfl d kk
theorem pf_X2_41 (cx : Cx l g p s m args meth c A cc nL RX2) (hin : meth.name = "<init>") {r : Nat} {x : Int32} {v0 v1 v2 v3 v4 v5 v6 v7 v8 v9 v10 v11 v12 : Value} (hτ : τ r = some (.inr (5, [v0, v1, v2, v3, v4, v5, v6, v7, v8, v9, v10, v11, v12]))) (d : decode cc pc = .ok (.putfield 41, 3)) (kk : AW l g p e R s m args below meth c A nL Q ad (va_up τ r (some (.inr (5, [v0, v1, .int x, v3, v4, v5, v6, v7, v8, v9, v10, v11, v12])))) cells slots (pc + 3) lv st) : AW l g p e R s m args below meth c A nL Q ad τ cells slots pc lv (.int x :: .ref (ad r) :: st) := a_putF cx (T := TX2) 2 uw_X2 tyX2 tyX2_ok nmX2 rfl (by decide) fl_X2_41 (fun _ h9 => h9) rfl rfl hin hτ rfl rfl (by decide : 2 < 13) d kk
theorem gf_X3_246 (cx : Cx l g p s m args meth c A cc nL RX3) {r : Nat} {v0 v1 v2 v3 v4 v5 v6 v7 v8 v9 v10 v11 v12 : Value} (hτ : τ r = some (.inr (5, [v0, v1, v2, v3, v4, v5, v6, v7, v8, v9, v10, v11, v12]))) (d : decode cc pc = .ok (.getfield 246, 3)) (kk : AW l g p e R s m args below meth c A nL Q ad τ cells slots (pc + 3) lv (v2 :: st)) : AW l g p e R s m args below meth c A nL Q ad τ cells slots pc lv (.ref (ad r) :: st) := a_get cx (T := TX2) 2 uw_X2 rfl (by decide) fl_X3_246 (fun _ h9 => h9) hτ rfl d kk
theorem gf_X2_44 (cx : Cx l g p s m args meth c A cc nL RX2) {r : Nat} {v0 v1 v2 v3 v4 v5 v6 v7 v8 v9 v10 v11 v12 : Value} (hτ : τ r = some (.inr (5, [v0, v1, v2, v3, v4, v5, v6, v7, v8, v9, v10, v11, v12]))) (d : decode cc pc = .ok (.getfield 44, 3)) (kk : AW l g p e R s m args below meth c A nL Q ad τ cells slots (pc + 3) lv (v3 :: st)) : AW l g p e R s m args below meth c A nL Q ad τ cells slots pc lv (.ref (ad r) :: st) := a_get cx (T := TX2) 3 uw_X2 rfl (by decide) fl_X2_44 (fun _ h9 => h9) hτ rfl d kk
theorem pf_X2_44 (cx : Cx l g p s m args meth c A cc nL RX2) (hin : meth.name = "<init>") {r : Nat} {x : Int32} {v0 v1 v2 v3 v4 v5 v6 v7 v8 v9 v10 v11 v12 : Value} (hτ : τ r = some (.inr (5, [v0, v1, v2, v3, v4, v5, v6, v7, v8, v9, v10, v11, v12]))) (d : decode cc pc = .ok (.putfield 44, 3)) (kk : AW l g p e R s m args below meth c A nL Q ad (va_up τ r (some (.inr (5, [v0, v1, v2, .int x, v4, v5, v6, v7, v8, v9, v10, v11, v12])))) cells slots (pc + 3) lv st) : AW l g p e R s m args below meth c A nL Q ad τ cells slots pc lv (.int x :: .ref (ad r) :: st) := a_putF cx (T := TX2) 3 uw_X2 tyX2 tyX2_ok nmX2 rfl (by decide) fl_X2_44 (fun _ h9 => h9) rfl rfl hin hτ rfl rfl (by decide : 3 < 13) d kk
theorem gf_X3_233 (cx : Cx l g p s m args meth c A cc nL RX3) {r : Nat} {v0 v1 v2 v3 v4 v5 v6 v7 v8 v9 v10 v11 v12 : Value} (hτ : τ r = some (.inr (5, [v0, v1, v2, v3, v4, v5, v6, v7, v8, v9, v10, v11, v12]))) (d : decode cc pc = .ok (.getfield 233, 3)) (kk : AW l g p e R s m args below meth c A nL Q ad τ cells slots (pc + 3) lv (v3 :: st)) : AW l g p e R s m args below meth c A nL Q ad τ cells slots pc lv (.ref (ad r) :: st) := a_get cx (T := TX2) 3 uw_X2 rfl (by decide) fl_X3_233 (fun _ h9 => h9) hτ rfl d kk
theorem gf_X2_47 (cx : Cx l g p s m args meth c A cc nL RX2) {r : Nat} {v0 v1 v2 v3 v4 v5 v6 v7 v8 v9 v10 v11 v12 : Value} (hτ : τ r = some (.inr (5, [v0, v1, v2, v3, v4, v5, v6, v7, v8, v9, v10, v11, v12]))) (d : decode cc pc = .ok (.getfield 47, 3)) (kk : AW l g p e R s m args below meth c A nL Q ad τ cells slots (pc + 3) lv (v4 :: st)) : AW l g p e R s m args below meth c A nL Q ad τ cells slots pc lv (.ref (ad r) :: st) := a_get cx (T := TX2) 4 uw_X2 rfl (by decide) fl_X2_47 (fun _ h9 => h9) hτ rfl d kk
theorem pf_X2_47 (cx : Cx l g p s m args meth c A cc nL RX2) (hin : meth.name = "<init>") {r : Nat} {x : Int32} {v0 v1 v2 v3 v4 v5 v6 v7 v8 v9 v10 v11 v12 : Value} (hτ : τ r = some (.inr (5, [v0, v1, v2, v3, v4, v5, v6, v7, v8, v9, v10, v11, v12]))) (d : decode cc pc = .ok (.putfield 47, 3)) (kk : AW l g p e R s m args below meth c A nL Q ad (va_up τ r (some (.inr (5, [v0, v1, v2, v3, .int x, v5, v6, v7, v8, v9, v10, v11, v12])))) cells slots (pc + 3) lv st) : AW l g p e R s m args below meth c A nL Q ad τ cells slots pc lv (.int x :: .ref (ad r) :: st) := a_putF cx (T := TX2) 4 uw_X2 tyX2 tyX2_ok nmX2 rfl (by decide) fl_X2_47 (fun _ h9 => h9) rfl rfl hin hτ rfl rfl (by decide : 4 < 13) d kk
theorem gf_X0_59 (cx : Cx l g p s m args meth c A cc nL RX0) {r : Nat} {v0 v1 v2 v3 v4 v5 v6 v7 v8 v9 v10 v11 v12 : Value} (hτ : τ r = some (.inr (5, [v0, v1, v2, v3, v4, v5, v6, v7, v8, v9, v10, v11, v12]))) (d : decode cc pc = .ok (.getfield 59, 3)) (kk : AW l g p e R s m args below meth c A nL Q ad τ cells slots (pc + 3) lv (v4 :: st)) : AW l g p e R s m args below meth c A nL Q ad τ cells slots pc lv (.ref (ad r) :: st) := a_get cx (T := TX2) 4 uw_X2 rfl (by decide) fl_X0_59 (fun _ h9 => h9) hτ rfl d kk
theorem gf_X2_50 (cx : Cx l g p s m args meth c A cc nL RX2) {r : Nat} {v0 v1 v2 v3 v4 v5 v6 v7 v8 v9 v10 v11 v12 : Value} (hτ : τ r = some (.inr (5, [v0, v1, v2, v3, v4, v5, v6, v7, v8, v9, v10, v11, v12]))) (d : decode cc pc = .ok (.getfield 50, 3)) (kk : AW l g p e R s m args below meth c A nL Q ad τ cells slots (pc + 3) lv (v5 :: st)) : AW l g p e R s m args below meth c A nL Q ad τ cells slots pc lv (.ref (ad r) :: st) := a_get cx (T := TX2) 5 uw_X2 rfl (by decide) fl_X2_50 (fun _ h9 => h9) hτ rfl d kk
theorem pf_X2_50 (cx : Cx l g p s m args meth c A cc nL RX2) (hin : meth.name = "<init>") {r : Nat} {x : Int32} {v0 v1 v2 v3 v4 v5 v6 v7 v8 v9 v10 v11 v12 : Value} (hτ : τ r = some (.inr (5, [v0, v1, v2, v3, v4, v5, v6, v7, v8, v9, v10, v11, v12]))) (d : decode cc pc = .ok (.putfield 50, 3)) (kk : AW l g p e R s m args below meth c A nL Q ad (va_up τ r (some (.inr (5, [v0, v1, v2, v3, v4, .int x, v6, v7, v8, v9, v10, v11, v12])))) cells slots (pc + 3) lv st) : AW l g p e R s m args below meth c A nL Q ad τ cells slots pc lv (.int x :: .ref (ad r) :: st) := a_putF cx (T := TX2) 5 uw_X2 tyX2 tyX2_ok nmX2 rfl (by decide) fl_X2_50 (fun _ h9 => h9) rfl rfl hin hτ rfl rfl (by decide : 5 < 13) d kk
theorem gf_X0_98 (cx : Cx l g p s m args meth c A cc nL RX0) {r : Nat} {v0 v1 v2 v3 v4 v5 v6 v7 v8 v9 v10 v11 v12 : Value} (hτ : τ r = some (.inr (5, [v0, v1, v2, v3, v4, v5, v6, v7, v8, v9, v10, v11, v12]))) (d : decode cc pc = .ok (.getfield 98, 3)) (kk : AW l g p e R s m args below meth c A nL Q ad τ cells slots (pc + 3) lv (v5 :: st)) : AW l g p e R s m args below meth c A nL Q ad τ cells slots pc lv (.ref (ad r) :: st) := a_get cx (T := TX2) 5 uw_X2 rfl (by decide) fl_X0_98 (fun _ h9 => h9) hτ rfl d kk
theorem gf_X3_256 (cx : Cx l g p s m args meth c A cc nL RX3) {r : Nat} {v0 v1 v2 v3 v4 v5 v6 v7 v8 v9 v10 v11 v12 : Value} (hτ : τ r = some (.inr (5, [v0, v1, v2, v3, v4, v5, v6, v7, v8, v9, v10, v11, v12]))) (d : decode cc pc = .ok (.getfield 256, 3)) (kk : AW l g p e R s m args below meth c A nL Q ad τ cells slots (pc + 3) lv (v5 :: st)) : AW l g p e R s m args below meth c A nL Q ad τ cells slots pc lv (.ref (ad r) :: st) := a_get cx (T := TX2) 5 uw_X2 rfl (by decide) fl_X3_256 (fun _ h9 => h9) hτ rfl d kk
theorem gf_X2_9 (cx : Cx l g p s m args meth c A cc nL RX2) {r : Nat} {v0 v1 v2 v3 v4 v5 v6 v7 v8 v9 v10 v11 v12 : Value} (hτ : τ r = some (.inr (5, [v0, v1, v2, v3, v4, v5, v6, v7, v8, v9, v10, v11, v12]))) (d : decode cc pc = .ok (.getfield 9, 3)) (kk : AW l g p e R s m args below meth c A nL Q ad τ cells slots (pc + 3) lv (v6 :: st)) : AW l g p e R s m args below meth c A nL Q ad τ cells slots pc lv (.ref (ad r) :: st) := a_get cx (T := TX2) 6 uw_X2 rfl (by decide) fl_X2_9 (fun _ h9 => h9) hτ rfl d kk
theorem pf_X2_9 (cx : Cx l g p s m args meth c A cc nL RX2) {r : Nat} {x : Int32} {v0 v1 v2 v3 v4 v5 v6 v7 v8 v9 v10 v11 v12 : Value} (hτ : τ r = some (.inr (5, [v0, v1, v2, v3, v4, v5, v6, v7, v8, v9, v10, v11, v12]))) (d : decode cc pc = .ok (.putfield 9, 3)) (kk : AW l g p e R s m args below meth c A nL Q ad (va_up τ r (some (.inr (5, [v0, v1, v2, v3, v4, v5, .int x, v7, v8, v9, v10, v11, v12])))) cells slots (pc + 3) lv st) : AW l g p e R s m args below meth c A nL Q ad τ cells slots pc lv (.int x :: .ref (ad r) :: st) := a_put cx (T := TX2) 6 uw_X2 tyX2 tyX2_ok nmX2 rfl (by decide) fl_X2_9 (fun _ h9 => h9) rfl hτ rfl rfl (by decide : 6 < 13) d kk
theorem gf_X0_68 (cx : Cx l g p s m args meth c A cc nL RX0) {r : Nat} {v0 v1 v2 v3 v4 v5 v6 v7 v8 v9 v10 v11 v12 : Value} (hτ : τ r = some (.inr (5, [v0, v1, v2, v3, v4, v5, v6, v7, v8, v9, v10, v11, v12]))) (d : decode cc pc = .ok (.getfield 68, 3)) (kk : AW l g p e R s m args below meth c A nL Q ad τ cells slots (pc + 3) lv (v6 :: st)) : AW l g p e R s m args below meth c A nL Q ad τ cells slots pc lv (.ref (ad r) :: st) := a_get cx (T := TX2) 6 uw_X2 rfl (by decide) fl_X0_68 (fun _ h9 => h9) hτ rfl d kk
theorem pf_X0_68 (cx : Cx l g p s m args meth c A cc nL RX0) {r : Nat} {x : Int32} {v0 v1 v2 v3 v4 v5 v6 v7 v8 v9 v10 v11 v12 : Value} (hτ : τ r = some (.inr (5, [v0, v1, v2, v3, v4, v5, v6, v7, v8, v9, v10, v11, v12]))) (d : decode cc pc = .ok (.putfield 68, 3)) (kk : AW l g p e R s m args below meth c A nL Q ad (va_up τ r (some (.inr (5, [v0, v1, v2, v3, v4, v5, .int x, v7, v8, v9, v10, v11, v12])))) cells slots (pc + 3) lv st) : AW l g p e R s m args below meth c A nL Q ad τ cells slots pc lv (.int x :: .ref (ad r) :: st) := a_put cx (T := TX2) 6 uw_X2 tyX2 tyX2_ok nmX2 rfl (by decide) fl_X0_68 (fun _ h9 => h9) rfl hτ rfl rfl (by decide : 6 < 13) d kk
theorem gf_X3_193 (cx : Cx l g p s m args meth c A cc nL RX3) {r : Nat} {v0 v1 v2 v3 v4 v5 v6 v7 v8 v9 v10 v11 v12 : Value} (hτ : τ r = some (.inr (5, [v0, v1, v2, v3, v4, v5, v6, v7, v8, v9, v10, v11, v12]))) (d : decode cc pc = .ok (.getfield 193, 3)) (kk : AW l g p e R s m args below meth c A nL Q ad τ cells slots (pc + 3) lv (v6 :: st)) : AW l g p e R s m args below meth c A nL Q ad τ cells slots pc lv (.ref (ad r) :: st) := a_get cx (T := TX2) 6 uw_X2 rfl (by decide) fl_X3_193 (fun _ h9 => h9) hτ rfl d kk
theorem pf_X3_193 (cx : Cx l g p s m args meth c A cc nL RX3) {r : Nat} {x : Int32} {v0 v1 v2 v3 v4 v5 v6 v7 v8 v9 v10 v11 v12 : Value} (hτ : τ r = some (.inr (5, [v0, v1, v2, v3, v4, v5, v6, v7, v8, v9, v10, v11, v12]))) (d : decode cc pc = .ok (.putfield 193, 3)) (kk : AW l g p e R s m args below meth c A nL Q ad (va_up τ r (some (.inr (5, [v0, v1, v2, v3, v4, v5, .int x, v7, v8, v9, v10, v11, v12])))) cells slots (pc + 3) lv st) : AW l g p e R s m args below meth c A nL Q ad τ cells slots pc lv (.int x :: .ref (ad r) :: st) := a_put cx (T := TX2) 6 uw_X2 tyX2 tyX2_ok nmX2 rfl (by decide) fl_X3_193 (fun _ h9 => h9) rfl hτ rfl rfl (by decide : 6 < 13) d kk
theorem gf_X2_15 (cx : Cx l g p s m args meth c A cc nL RX2) {r : Nat} {v0 v1 v2 v3 v4 v5 v6 v7 v8 v9 v10 v11 v12 : Value} (hτ : τ r = some (.inr (5, [v0, v1, v2, v3, v4, v5, v6, v7, v8, v9, v10, v11, v12]))) (d : decode cc pc = .ok (.getfield 15, 3)) (kk : AW l g p e R s m args below meth c A nL Q ad τ cells slots (pc + 3) lv (v7 :: st)) : AW l g p e R s m args below meth c A nL Q ad τ cells slots pc lv (.ref (ad r) :: st) := a_get cx (T := TX2) 7 uw_X2 rfl (by decide) fl_X2_15 (fun _ h9 => h9) hτ rfl d kk
theorem pf_X2_15 (cx : Cx l g p s m args meth c A cc nL RX2) {r : Nat} {x : Int32} {v0 v1 v2 v3 v4 v5 v6 v7 v8 v9 v10 v11 v12 : Value} (hτ : τ r = some (.inr (5, [v0, v1, v2, v3, v4, v5, v6, v7, v8, v9, v10, v11, v12]))) (d : decode cc pc = .ok (.putfield 15, 3)) (kk : AW l g p e R s m args below meth c A nL Q ad (va_up τ r (some (.inr (5, [v0, v1, v2, v3, v4, v5, v6, .int x, v8, v9, v10, v11, v12])))) cells slots (pc + 3) lv st) : AW l g p e R s m args below meth c A nL Q ad τ cells slots pc lv (.int x :: .ref (ad r) :: st) := a_put cx (T := TX2) 7 uw_X2 tyX2 tyX2_ok nmX2 rfl (by decide) fl_X2_15 (fun _ h9 => h9) rfl hτ rfl rfl (by decide : 7 < 13) d kk
theorem gf_X3_122 (cx : Cx l g p s m args meth c A cc nL RX3) {r : Nat} {v0 v1 v2 v3 v4 v5 v6 v7 v8 v9 v10 v11 v12 : Value} (hτ : τ r = some (.inr (5, [v0, v1, v2, v3, v4, v5, v6, v7, v8, v9, v10, v11, v12]))) (d : decode cc pc = .ok (.getfield 122, 3)) (kk : AW l g p e R s m args below meth c A nL Q ad τ cells slots (pc + 3) lv (v7 :: st)) : AW l g p e R s m args below meth c A nL Q ad τ cells slots pc lv (.ref (ad r) :: st) := a_get cx (T := TX2) 7 uw_X2 rfl (by decide) fl_X3_122 (fun _ h9 => h9) hτ rfl d kk
theorem pf_X3_122 (cx : Cx l g p s m args meth c A cc nL RX3) {r : Nat} {x : Int32} {v0 v1 v2 v3 v4 v5 v6 v7 v8 v9 v10 v11 v12 : Value} (hτ : τ r = some (.inr (5, [v0, v1, v2, v3, v4, v5, v6, v7, v8, v9, v10, v11, v12]))) (d : decode cc pc = .ok (.putfield 122, 3)) (kk : AW l g p e R s m args below meth c A nL Q ad (va_up τ r (some (.inr (5, [v0, v1, v2, v3, v4, v5, v6, .int x, v8, v9, v10, v11, v12])))) cells slots (pc + 3) lv st) : AW l g p e R s m args below meth c A nL Q ad τ cells slots pc lv (.int x :: .ref (ad r) :: st) := a_put cx (T := TX2) 7 uw_X2 tyX2 tyX2_ok nmX2 rfl (by decide) fl_X3_122 (fun _ h9 => h9) rfl hτ rfl rfl (by decide : 7 < 13) d kk
theorem gf_X2_18 (cx : Cx l g p s m args meth c A cc nL RX2) {r : Nat} {v0 v1 v2 v3 v4 v5 v6 v7 v8 v9 v10 v11 v12 : Value} (hτ : τ r = some (.inr (5, [v0, v1, v2, v3, v4, v5, v6, v7, v8, v9, v10, v11, v12]))) (d : decode cc pc = .ok (.getfield 18, 3)) (kk : AW l g p e R s m args below meth c A nL Q ad τ cells slots (pc + 3) lv (v8 :: st)) : AW l g p e R s m args below meth c A nL Q ad τ cells slots pc lv (.ref (ad r) :: st) := a_get cx (T := TX2) 8 uw_X2 rfl (by decide) fl_X2_18 (fun _ h9 => h9) hτ rfl d kk
theorem pf_X2_18 (cx : Cx l g p s m args meth c A cc nL RX2) {r : Nat} {x : Int32} {v0 v1 v2 v3 v4 v5 v6 v7 v8 v9 v10 v11 v12 : Value} (hτ : τ r = some (.inr (5, [v0, v1, v2, v3, v4, v5, v6, v7, v8, v9, v10, v11, v12]))) (hx : narrow .char (.int x) = .int x ∧ fits .char (.int x) = true) (d : decode cc pc = .ok (.putfield 18, 3)) (kk : AW l g p e R s m args below meth c A nL Q ad (va_up τ r (some (.inr (5, [v0, v1, v2, v3, v4, v5, v6, v7, .int x, v9, v10, v11, v12])))) cells slots (pc + 3) lv st) : AW l g p e R s m args below meth c A nL Q ad τ cells slots pc lv (.int x :: .ref (ad r) :: st) := a_put cx (T := TX2) 8 uw_X2 tyX2 tyX2_ok nmX2 rfl (by decide) fl_X2_18 (fun _ h9 => h9) rfl hτ hx.1 hx.2 (by decide : 8 < 13) d kk
theorem gf_X3_125 (cx : Cx l g p s m args meth c A cc nL RX3) {r : Nat} {v0 v1 v2 v3 v4 v5 v6 v7 v8 v9 v10 v11 v12 : Value} (hτ : τ r = some (.inr (5, [v0, v1, v2, v3, v4, v5, v6, v7, v8, v9, v10, v11, v12]))) (d : decode cc pc = .ok (.getfield 125, 3)) (kk : AW l g p e R s m args below meth c A nL Q ad τ cells slots (pc + 3) lv (v8 :: st)) : AW l g p e R s m args below meth c A nL Q ad τ cells slots pc lv (.ref (ad r) :: st) := a_get cx (T := TX2) 8 uw_X2 rfl (by decide) fl_X3_125 (fun _ h9 => h9) hτ rfl d kk
theorem pf_X3_125 (cx : Cx l g p s m args meth c A cc nL RX3) {r : Nat} {x : Int32} {v0 v1 v2 v3 v4 v5 v6 v7 v8 v9 v10 v11 v12 : Value} (hτ : τ r = some (.inr (5, [v0, v1, v2, v3, v4, v5, v6, v7, v8, v9, v10, v11, v12]))) (hx : narrow .char (.int x) = .int x ∧ fits .char (.int x) = true) (d : decode cc pc = .ok (.putfield 125, 3)) (kk : AW l g p e R s m args below meth c A nL Q ad (va_up τ r (some (.inr (5, [v0, v1, v2, v3, v4, v5, v6, v7, .int x, v9, v10, v11, v12])))) cells slots (pc + 3) lv st) : AW l g p e R s m args below meth c A nL Q ad τ cells slots pc lv (.int x :: .ref (ad r) :: st) := a_put cx (T := TX2) 8 uw_X2 tyX2 tyX2_ok nmX2 rfl (by decide) fl_X3_125 (fun _ h9 => h9) rfl hτ hx.1 hx.2 (by decide : 8 < 13) d kk
theorem gf_X2_22 (cx : Cx l g p s m args meth c A cc nL RX2) {r : Nat} {v0 v1 v2 v3 v4 v5 v6 v7 v8 v9 v10 v11 v12 : Value} (hτ : τ r = some (.inr (5, [v0, v1, v2, v3, v4, v5, v6, v7, v8, v9, v10, v11, v12]))) (d : decode cc pc = .ok (.getfield 22, 3)) (kk : AW l g p e R s m args below meth c A nL Q ad τ cells slots (pc + 3) lv (v9 :: st)) : AW l g p e R s m args below meth c A nL Q ad τ cells slots pc lv (.ref (ad r) :: st) := a_get cx (T := TX2) 9 uw_X2 rfl (by decide) fl_X2_22 (fun _ h9 => h9) hτ rfl d kk
theorem pf_X2_22 (cx : Cx l g p s m args meth c A cc nL RX2) {r : Nat} {x : Int32} {v0 v1 v2 v3 v4 v5 v6 v7 v8 v9 v10 v11 v12 : Value} (hτ : τ r = some (.inr (5, [v0, v1, v2, v3, v4, v5, v6, v7, v8, v9, v10, v11, v12]))) (d : decode cc pc = .ok (.putfield 22, 3)) (kk : AW l g p e R s m args below meth c A nL Q ad (va_up τ r (some (.inr (5, [v0, v1, v2, v3, v4, v5, v6, v7, v8, .int x, v10, v11, v12])))) cells slots (pc + 3) lv st) : AW l g p e R s m args below meth c A nL Q ad τ cells slots pc lv (.int x :: .ref (ad r) :: st) := a_put cx (T := TX2) 9 uw_X2 tyX2 tyX2_ok nmX2 rfl (by decide) fl_X2_22 (fun _ h9 => h9) rfl hτ rfl rfl (by decide : 9 < 13) d kk
theorem gf_X3_205 (cx : Cx l g p s m args meth c A cc nL RX3) {r : Nat} {v0 v1 v2 v3 v4 v5 v6 v7 v8 v9 v10 v11 v12 : Value} (hτ : τ r = some (.inr (5, [v0, v1, v2, v3, v4, v5, v6, v7, v8, v9, v10, v11, v12]))) (d : decode cc pc = .ok (.getfield 205, 3)) (kk : AW l g p e R s m args below meth c A nL Q ad τ cells slots (pc + 3) lv (v9 :: st)) : AW l g p e R s m args below meth c A nL Q ad τ cells slots pc lv (.ref (ad r) :: st) := a_get cx (T := TX2) 9 uw_X2 rfl (by decide) fl_X3_205 (fun _ h9 => h9) hτ rfl d kk
theorem pf_X3_205 (cx : Cx l g p s m args meth c A cc nL RX3) {r : Nat} {x : Int32} {v0 v1 v2 v3 v4 v5 v6 v7 v8 v9 v10 v11 v12 : Value} (hτ : τ r = some (.inr (5, [v0, v1, v2, v3, v4, v5, v6, v7, v8, v9, v10, v11, v12]))) (d : decode cc pc = .ok (.putfield 205, 3)) (kk : AW l g p e R s m args below meth c A nL Q ad (va_up τ r (some (.inr (5, [v0, v1, v2, v3, v4, v5, v6, v7, v8, .int x, v10, v11, v12])))) cells slots (pc + 3) lv st) : AW l g p e R s m args below meth c A nL Q ad τ cells slots pc lv (.int x :: .ref (ad r) :: st) := a_put cx (T := TX2) 9 uw_X2 tyX2 tyX2_ok nmX2 rfl (by decide) fl_X3_205 (fun _ h9 => h9) rfl hτ rfl rfl (by decide : 9 < 13) d kk
theorem gf_X2_25 (cx : Cx l g p s m args meth c A cc nL RX2) {r : Nat} {v0 v1 v2 v3 v4 v5 v6 v7 v8 v9 v10 v11 v12 : Value} (hτ : τ r = some (.inr (5, [v0, v1, v2, v3, v4, v5, v6, v7, v8, v9, v10, v11, v12]))) (d : decode cc pc = .ok (.getfield 25, 3)) (kk : AW l g p e R s m args below meth c A nL Q ad τ cells slots (pc + 3) lv (v10 :: st)) : AW l g p e R s m args below meth c A nL Q ad τ cells slots pc lv (.ref (ad r) :: st) := a_get cx (T := TX2) 10 uw_X2 rfl (by decide) fl_X2_25 (fun _ h9 => h9) hτ rfl d kk
theorem pf_X2_25 (cx : Cx l g p s m args meth c A cc nL RX2) {r : Nat} {x : Int32} {v0 v1 v2 v3 v4 v5 v6 v7 v8 v9 v10 v11 v12 : Value} (hτ : τ r = some (.inr (5, [v0, v1, v2, v3, v4, v5, v6, v7, v8, v9, v10, v11, v12]))) (d : decode cc pc = .ok (.putfield 25, 3)) (kk : AW l g p e R s m args below meth c A nL Q ad (va_up τ r (some (.inr (5, [v0, v1, v2, v3, v4, v5, v6, v7, v8, v9, .int x, v11, v12])))) cells slots (pc + 3) lv st) : AW l g p e R s m args below meth c A nL Q ad τ cells slots pc lv (.int x :: .ref (ad r) :: st) := a_put cx (T := TX2) 10 uw_X2 tyX2 tyX2_ok nmX2 rfl (by decide) fl_X2_25 (fun _ h9 => h9) rfl hτ rfl rfl (by decide : 10 < 13) d kk
theorem gf_X3_208 (cx : Cx l g p s m args meth c A cc nL RX3) {r : Nat} {v0 v1 v2 v3 v4 v5 v6 v7 v8 v9 v10 v11 v12 : Value} (hτ : τ r = some (.inr (5, [v0, v1, v2, v3, v4, v5, v6, v7, v8, v9, v10, v11, v12]))) (d : decode cc pc = .ok (.getfield 208, 3)) (kk : AW l g p e R s m args below meth c A nL Q ad τ cells slots (pc + 3) lv (v10 :: st)) : AW l g p e R s m args below meth c A nL Q ad τ cells slots pc lv (.ref (ad r) :: st) := a_get cx (T := TX2) 10 uw_X2 rfl (by decide) fl_X3_208 (fun _ h9 => h9) hτ rfl d kk
theorem pf_X3_208 (cx : Cx l g p s m args meth c A cc nL RX3) {r : Nat} {x : Int32} {v0 v1 v2 v3 v4 v5 v6 v7 v8 v9 v10 v11 v12 : Value} (hτ : τ r = some (.inr (5, [v0, v1, v2, v3, v4, v5, v6, v7, v8, v9, v10, v11, v12]))) (d : decode cc pc = .ok (.putfield 208, 3)) (kk : AW l g p e R s m args below meth c A nL Q ad (va_up τ r (some (.inr (5, [v0, v1, v2, v3, v4, v5, v6, v7, v8, v9, .int x, v11, v12])))) cells slots (pc + 3) lv st) : AW l g p e R s m args below meth c A nL Q ad τ cells slots pc lv (.int x :: .ref (ad r) :: st) := a_put cx (T := TX2) 10 uw_X2 tyX2 tyX2_ok nmX2 rfl (by decide) fl_X3_208 (fun _ h9 => h9) rfl hτ rfl rfl (by decide : 10 < 13) d kk
theorem gf_X2_28 (cx : Cx l g p s m args meth c A cc nL RX2) {r : Nat} {v0 v1 v2 v3 v4 v5 v6 v7 v8 v9 v10 v11 v12 : Value} (hτ : τ r = some (.inr (5, [v0, v1, v2, v3, v4, v5, v6, v7, v8, v9, v10, v11, v12]))) (d : decode cc pc = .ok (.getfield 28, 3)) (kk : AW l g p e R s m args below meth c A nL Q ad τ cells slots (pc + 3) lv (v11 :: st)) : AW l g p e R s m args below meth c A nL Q ad τ cells slots pc lv (.ref (ad r) :: st) := a_get cx (T := TX2) 11 uw_X2 rfl (by decide) fl_X2_28 (fun _ h9 => h9) hτ rfl d kk
theorem pf_X2_28 (cx : Cx l g p s m args meth c A cc nL RX2) {r : Nat} {x : Int32} {v0 v1 v2 v3 v4 v5 v6 v7 v8 v9 v10 v11 v12 : Value} (hτ : τ r = some (.inr (5, [v0, v1, v2, v3, v4, v5, v6, v7, v8, v9, v10, v11, v12]))) (d : decode cc pc = .ok (.putfield 28, 3)) (kk : AW l g p e R s m args below meth c A nL Q ad (va_up τ r (some (.inr (5, [v0, v1, v2, v3, v4, v5, v6, v7, v8, v9, v10, .int x, v12])))) cells slots (pc + 3) lv st) : AW l g p e R s m args below meth c A nL Q ad τ cells slots pc lv (.int x :: .ref (ad r) :: st) := a_put cx (T := TX2) 11 uw_X2 tyX2 tyX2_ok nmX2 rfl (by decide) fl_X2_28 (fun _ h9 => h9) rfl hτ rfl rfl (by decide : 11 < 13) d kk
theorem gf_X3_211 (cx : Cx l g p s m args meth c A cc nL RX3) {r : Nat} {v0 v1 v2 v3 v4 v5 v6 v7 v8 v9 v10 v11 v12 : Value} (hτ : τ r = some (.inr (5, [v0, v1, v2, v3, v4, v5, v6, v7, v8, v9, v10, v11, v12]))) (d : decode cc pc = .ok (.getfield 211, 3)) (kk : AW l g p e R s m args below meth c A nL Q ad τ cells slots (pc + 3) lv (v11 :: st)) : AW l g p e R s m args below meth c A nL Q ad τ cells slots pc lv (.ref (ad r) :: st) := a_get cx (T := TX2) 11 uw_X2 rfl (by decide) fl_X3_211 (fun _ h9 => h9) hτ rfl d kk
theorem pf_X3_211 (cx : Cx l g p s m args meth c A cc nL RX3) {r : Nat} {x : Int32} {v0 v1 v2 v3 v4 v5 v6 v7 v8 v9 v10 v11 v12 : Value} (hτ : τ r = some (.inr (5, [v0, v1, v2, v3, v4, v5, v6, v7, v8, v9, v10, v11, v12]))) (d : decode cc pc = .ok (.putfield 211, 3)) (kk : AW l g p e R s m args below meth c A nL Q ad (va_up τ r (some (.inr (5, [v0, v1, v2, v3, v4, v5, v6, v7, v8, v9, v10, .int x, v12])))) cells slots (pc + 3) lv st) : AW l g p e R s m args below meth c A nL Q ad τ cells slots pc lv (.int x :: .ref (ad r) :: st) := a_put cx (T := TX2) 11 uw_X2 tyX2 tyX2_ok nmX2 rfl (by decide) fl_X3_211 (fun _ h9 => h9) rfl hτ rfl rfl (by decide : 11 < 13) d kk
theorem gf_X2_31 (cx : Cx l g p s m args meth c A cc nL RX2) {r : Nat} {v0 v1 v2 v3 v4 v5 v6 v7 v8 v9 v10 v11 v12 : Value} (hτ : τ r = some (.inr (5, [v0, v1, v2, v3, v4, v5, v6, v7, v8, v9, v10, v11, v12]))) (d : decode cc pc = .ok (.getfield 31, 3)) (kk : AW l g p e R s m args below meth c A nL Q ad τ cells slots (pc + 3) lv (v12 :: st)) : AW l g p e R s m args below meth c A nL Q ad τ cells slots pc lv (.ref (ad r) :: st) := a_get cx (T := TX2) 12 uw_X2 rfl (by decide) fl_X2_31 (fun _ h9 => h9) hτ rfl d kk
theorem pf_X2_31 (cx : Cx l g p s m args meth c A cc nL RX2) {r : Nat} {x : Int32} {v0 v1 v2 v3 v4 v5 v6 v7 v8 v9 v10 v11 v12 : Value} (hτ : τ r = some (.inr (5, [v0, v1, v2, v3, v4, v5, v6, v7, v8, v9, v10, v11, v12]))) (d : decode cc pc = .ok (.putfield 31, 3)) (kk : AW l g p e R s m args below meth c A nL Q ad (va_up τ r (some (.inr (5, [v0, v1, v2, v3, v4, v5, v6, v7, v8, v9, v10, v11, .int x])))) cells slots (pc + 3) lv st) : AW l g p e R s m args below meth c A nL Q ad τ cells slots pc lv (.int x :: .ref (ad r) :: st) := a_put cx (T := TX2) 12 uw_X2 tyX2 tyX2_ok nmX2 rfl (by decide) fl_X2_31 (fun _ h9 => h9) rfl hτ rfl rfl (by decide : 12 < 13) d kk
theorem gf_X0_105 (cx : Cx l g p s m args meth c A cc nL RX0) {r : Nat} {v0 v1 v2 v3 v4 v5 v6 v7 v8 v9 v10 v11 v12 : Value} (hτ : τ r = some (.inr (5, [v0, v1, v2, v3, v4, v5, v6, v7, v8, v9, v10, v11, v12]))) (d : decode cc pc = .ok (.getfield 105, 3)) (kk : AW l g p e R s m args below meth c A nL Q ad τ cells slots (pc + 3) lv (v12 :: st)) : AW l g p e R s m args below meth c A nL Q ad τ cells slots pc lv (.ref (ad r) :: st) := a_get cx (T := TX2) 12 uw_X2 rfl (by decide) fl_X0_105 (fun _ h9 => h9) hτ rfl d kk
theorem pf_X0_105 (cx : Cx l g p s m args meth c A cc nL RX0) {r : Nat} {x : Int32} {v0 v1 v2 v3 v4 v5 v6 v7 v8 v9 v10 v11 v12 : Value} (hτ : τ r = some (.inr (5, [v0, v1, v2, v3, v4, v5, v6, v7, v8, v9, v10, v11, v12]))) (d : decode cc pc = .ok (.putfield 105, 3)) (kk : AW l g p e R s m args below meth c A nL Q ad (va_up τ r (some (.inr (5, [v0, v1, v2, v3, v4, v5, v6, v7, v8, v9, v10, v11, .int x])))) cells slots (pc + 3) lv st) : AW l g p e R s m args below meth c A nL Q ad τ cells slots pc lv (.int x :: .ref (ad r) :: st) := a_put cx (T := TX2) 12 uw_X2 tyX2 tyX2_ok nmX2 rfl (by decide) fl_X0_105 (fun _ h9 => h9) rfl hτ rfl rfl (by decide : 12 < 13) d kk
theorem gf_X3_214 (cx : Cx l g p s m args meth c A cc nL RX3) {r : Nat} {v0 v1 v2 v3 v4 v5 v6 v7 v8 v9 v10 v11 v12 : Value} (hτ : τ r = some (.inr (5, [v0, v1, v2, v3, v4, v5, v6, v7, v8, v9, v10, v11, v12]))) (d : decode cc pc = .ok (.getfield 214, 3)) (kk : AW l g p e R s m args below meth c A nL Q ad τ cells slots (pc + 3) lv (v12 :: st)) : AW l g p e R s m args below meth c A nL Q ad τ cells slots pc lv (.ref (ad r) :: st) := a_get cx (T := TX2) 12 uw_X2 rfl (by decide) fl_X3_214 (fun _ h9 => h9) hτ rfl d kk
theorem pf_X3_214 (cx : Cx l g p s m args meth c A cc nL RX3) {r : Nat} {x : Int32} {v0 v1 v2 v3 v4 v5 v6 v7 v8 v9 v10 v11 v12 : Value} (hτ : τ r = some (.inr (5, [v0, v1, v2, v3, v4, v5, v6, v7, v8, v9, v10, v11, v12]))) (d : decode cc pc = .ok (.putfield 214, 3)) (kk : AW l g p e R s m args below meth c A nL Q ad (va_up τ r (some (.inr (5, [v0, v1, v2, v3, v4, v5, v6, v7, v8, v9, v10, v11, .int x])))) cells slots (pc + 3) lv st) : AW l g p e R s m args below meth c A nL Q ad τ cells slots pc lv (.int x :: .ref (ad r) :: st) := a_put cx (T := TX2) 12 uw_X2 tyX2 tyX2_ok nmX2 rfl (by decide) fl_X3_214 (fun _ h9 => h9) rfl hτ rfl rfl (by decide : 12 < 13) d kk
end FROWS
theorem th_38 : (∀ w ∈ vx_atS RX3 38 "java/lang/IllegalArgumentException" ["java/lang/RuntimeException", "java/lang/Exception"], w ∈ TW ∨ w ∈ BW) ∧ ∀ w ∈ vx_atS RX3 38 "java/lang/IllegalArgumentException" ["java/lang/RuntimeException", "java/lang/Exception"], vx_ot w = true := by decide +kernel
theorem th_51 : (∀ w ∈ vx_atS RX3 51 "java/lang/IllegalStateException" ["java/lang/RuntimeException", "java/lang/Exception"], w ∈ TW ∨ w ∈ BW) ∧ ∀ w ∈ vx_atS RX3 51 "java/lang/IllegalStateException" ["java/lang/RuntimeException", "java/lang/Exception"], vx_ot w = true := by decide +kernel
theorem th_113 : (∀ w ∈ vx_atS RX3 113 "java/lang/IndexOutOfBoundsException" ["java/lang/RuntimeException", "java/lang/Exception"], w ∈ TW ∨ w ∈ BW) ∧ ∀ w ∈ vx_atS RX3 113 "java/lang/IndexOutOfBoundsException" ["java/lang/RuntimeException", "java/lang/Exception"], vx_ot w = true := by decide +kernel
theorem th_150 : (∀ w ∈ vx_atS RX3 150 "java/lang/UnsupportedOperationException" ["java/lang/RuntimeException", "java/lang/Exception"], w ∈ TW ∨ w ∈ BW) ∧ ∀ w ∈ vx_atS RX3 150 "java/lang/UnsupportedOperationException" ["java/lang/RuntimeException", "java/lang/Exception"], vx_ot w = true := by decide +kernel
theorem fit_names : ∀ n ∈ ["java/lang/RuntimeException", "java/lang/Exception"], Bundle.fit n = true := by decide +kernel
def rmv (d mc ms : Nat) : Room := { frames := d, cells := mc, slots := ms, locals := 64 * d }
abbrev NoX : String → AD → RH → Prop := fun _ _ _ => False
end
section
/-! NoSuchElementException's constructor reaches its super's by another place of its pool than the library's chains have: the same walk, said for this class alone (it follows BundleOwnThrow.lean and vx_throwS). -/
def nse_six : ByteArray := ⟨#[0x2a, 0x2b, 0xb7, 0x00, 0x0d, 0xb1]⟩
theorem nse_0 : decode nse_six 0 = .ok (.aload_n 0, 1) := by decide +kernel
theorem nse_1 : decode nse_six 1 = .ok (.aload_n 1, 1) := by decide +kernel
theorem nse_2 : decode nse_six 2 = .ok (.invokespecial 13, 3) := by decide +kernel
theorem nse_5 : decode nse_six 5 = .ok (.return_, 1) := by decide +kernel
abbrev nse_X : String := "java/util/NoSuchElementException"
abbrev nse_Y : String := "java/lang/RuntimeException"
def nse_atoms (own : String) (ic : Nat) : List Cond :=
  Bundle.throwableAtoms ++ Bundle.throwableSAtoms ++ (Bundle.passSAtoms nse_X nse_Y 13 nse_six ++ Bundle.chainSAtoms nse_Y ["java/lang/Exception"]) ++
  [.methodLink own ic (Bundle.initS nse_X), .instantiable nse_X 6, .castable nse_X nse_X, .selects nse_X Bundle.tFill0 Bundle.tFill0, .selects nse_X Bundle.tFill Bundle.tFill,
   .lays nse_X Bundle.tN "cause" "Ljava/lang/Throwable;", .lays nse_X Bundle.tN "stackTrace" Bundle.steD, .lays nse_X Bundle.tN "suppressedExceptions" Bundle.listD, .lays nse_X Bundle.tN "detailMessage" "Ljava/lang/String;",
   .isRef (.static Bundle.tN "UNASSIGNED_STACK" Bundle.steD), .isRef (.static Bundle.tN "SUPPRESSED_SENTINEL" Bundle.listD),
   .fieldLink Bundle.tN 198 Bundle.tN "backtrace" "Ljava/lang/Object;", .lays Bundle.tN Bundle.tN "backtrace" "Ljava/lang/Object;", .lays nse_X Bundle.tN "backtrace" "Ljava/lang/Object;"]
def nse_at (own : String) (ic : Nat) : List Cond := (nse_atoms own ic).filter vx_no
section NSE
variable {p : Program} {l : Launch} {e : Env} {R : Room} {s : State} {m : MethodId} {args : Array Value} {below : List Frame} {meth : Method} {c : Code} {locs : List Loc} {cells slots : Nat}
set_option maxHeartbeats 4000000 in
theorem nse_ctor {W : State} (X : Stand p l e R s m args below meth c W locs cells slots) (hexec : p.tables.exec = Jvm.exec) (htr : e.platform.stackTraces = false) {own : String} {ic : Nat}
    (hown : s.vm.findClass own = some m.cls) (h : ∀ a ∈ nse_atoms own ic, a.before args s = true) (hlocs : ∀ x ∈ locs, ∀ cell, s.heap[x.base]? = some cell → cell.vm.isStatics = false)
    {a : Addr} {cX : ClassId} {kX : Class} (hfoundX : s.vm.findClass nse_X = some cX) (hkX : s.vm.classes[cX]? = some kX) (hcell : W.heap[a]? = some (freshCell cX kX)) (hnew : s.heap.size ≤ a)
    {msg : Value} (hmsg : msg.isRef = true) {g : JFrame} (hg : g.method = m) (hsize : g.locals.size = c.maxLocals) (hlocked : g.locked = none) (hentered : g.entered = []) {rest : List Value} (hstack : g.stack = msg :: .ref a :: .ref a :: rest)
    (hd6 : decode c.code g.pc = .ok (.invokespecial ic, 3)) (hd9 : decode c.code (g.pc + 3) = .ok (.athrow, 1)) (hout : ∀ x ∈ c.exceptionTable.toList, covers x (g.pc + 3) = false)
    (hRframes : 2 + 3 < R.frames) (hRlocals : 2 * g.monitorRoom + ((Value.ref a :: rest).map fun v => v.category).sum + (13 * (2 + 1) + 42) ≤ R.locals) (hlocks : meth.locks = false) :
    ∃ U : State, Steps p.tables e below (W.setTop g) U ∧ U.status = .running ∧ Ended U below (.threw a) ∧ s.WarmedH U.vm ∧ s.sameButNew ({ U with vm := s.vm } : State) locs cells slots ∧
      ∃ ce, U.heap[a]? = some ce ∧ ce.vm = .none ∧ s.vm.findClass nse_X = some ce.cls := by
  have howns : e.platform.frameOwnsMonitors = true := by rw [X.admits.platform]
  have hfin : e.platform.finalization = false := by rw [X.admits.platform]
  have hpl : e.platform.magicAccessors = ({} : Platform).magicAccessors := by rw [X.admits.platform]
  have a' : ∀ x, x ∈ nse_atoms own ic → x.holds args s none s [] = true := fun x hx => h x hx
  obtain ⟨T, Z0, L, -, Y⟩ := ThrowableC.of_atoms (args := args) howns hfin hpl (fun x hx => h x (by simp [nse_atoms, hx]))
  obtain ⟨Z, M, LZ, LM, hnZ⟩ := Init0T.ofS_atoms (args := args) hpl L Y (fun x hx => h x (by simp [nse_atoms, hx]))
  obtain ⟨P2, Ps2, hlen2, L2, hL2, hP2m, hsup2, hpass2⟩ := Bundle.chainS (args := args) hpl hnZ ["java/lang/Exception"] nse_Y (by decide +kernel) (by decide +kernel) (fun x hx => h x (by simp [nse_atoms, hx]))
  obtain ⟨P1, L1, hP1m, hs1⟩ := PassC.ofS_atoms (args := args) (s := s) hpl (X := nse_X) (Y := nse_Y) (by decide +kernel) (by decide) nse_0 nse_1 nse_2 nse_5 (fun x hx => h x (by simp [nse_atoms, hx]))
  have hlink1 : P1.sup = P2.m := Option.some.inj (hs1.symm.trans hP2m)
  have hfound : s.vm.findClass nse_X = some P1.m.cls := findClass_of_methodNamed hP1m
  cases Option.some.inj (hfoundX.symm.trans hfound)
  obtain ⟨c1, kX', hc1, hk, hord, -, -, hn6⟩ := Cond.instantiable_spec (a' (.instantiable nse_X 6) (by simp [nse_atoms]))
  cases Option.some.inj (hc1.symm.trans hfound)
  cases Option.some.inj (hkX.symm.trans hk)
  have hsel0 : selectMethod e.platform s.vm P1.m.cls T.fill0 = .method T.fill0 := by
    obtain ⟨c2, r2, m2, q1, q2, q3, q4, -⟩ := Cond.selects_spec (a' (.selects nse_X Bundle.tFill0 Bundle.tFill0) (by simp [nse_atoms]))
    cases Option.some.inj (q1.symm.trans hfound)
    cases Option.some.inj (q2.symm.trans (State.methodFound?_of_named Y.fill0 (by decide)))
    cases Option.some.inj (q3.symm.trans Y.fill0)
    rw [Launch.admits_selectMethod X.admits]; exact q4
  have hselF : selectMethod e.platform s.vm P1.m.cls T.fill = .method T.fill := by
    obtain ⟨c2, r2, m2, q1, q2, q3, q4, -⟩ := Cond.selects_spec (a' (.selects nse_X Bundle.tFill Bundle.tFill) (by simp [nse_atoms]))
    cases Option.some.inj (q1.symm.trans hfound)
    cases Option.some.inj (q2.symm.trans (State.methodFound?_of_named Y.fill (by decide)))
    cases Option.some.inj (q3.symm.trans Y.fill)
    rw [Launch.admits_selectMethod X.admits]; exact q4
  obtain ⟨cellS0, hcS0, hiss⟩ := Y.statics
  obtain ⟨u0, hu0⟩ := Cond.staticRefV Y.unassigned L.unassignedStatic L.statics hcS0 hiss (a' (.isRef (.static Bundle.tN "UNASSIGNED_STACK" Bundle.steD)) (by simp [nse_atoms]))
  obtain ⟨sen, hsen⟩ := Cond.staticRefV Y.sentinel L.sentinelStatic L.statics hcS0 hiss (a' (.isRef (.static Bundle.tN "SUPPRESSED_SENTINEL" Bundle.listD)) (by simp [nse_atoms]))
  obtain ⟨ci198, i198, fB, hk198, hg198, ha198, hsB, -, hnB, htB, hffB⟩ := Cond.ownField (t := .object "java/lang/Object") Y.found L.cls (by decide +kernel) (a' (.fieldLink Bundle.tN 198 Bundle.tN "backtrace" "Ljava/lang/Object;") (by simp [nse_atoms])) (a' (.lays Bundle.tN Bundle.tN "backtrace" "Ljava/lang/Object;") (by simp [nse_atoms])) e.platform hpl
  obtain ⟨cellS, hcS', heS, -, hkeep⟩ := X.same.2.2.2.2.2 T.aS cellS0 hcS0
  have hcellS : W.heap[T.aS]? = some cellS := hcS'
  have hout' : ∀ i, (⟨T.aS, i⟩ : Loc) ∉ locs := fun i hmem => by
    have := hlocs _ hmem cellS0 hcS0
    rw [hiss] at this; cases this
  have hknownS : cellS.vm ≠ .unknown := by
    rw [heS]; intro hu
    rw [show cellS0.vm = .unknown from hu] at hiss
    cases hiss
  have hneS : T.aS ≠ a := Nat.ne_of_lt (Nat.lt_of_lt_of_le (Array.getElem?_eq_some_iff.mp hcS0).1 hnew)
  obtain ⟨iM, hffM⟩ := Y.msg
  obtain ⟨tyC, dC, hdC, hdnC⟩ := Cond.laysAt hfound hk Y.cause (a' (.lays nse_X Bundle.tN "cause" "Ljava/lang/Throwable;") (by simp [nse_atoms]))
  obtain ⟨tyS, dS, hdS, hdnS⟩ := Cond.laysAt hfound hk Y.stack (a' (.lays nse_X Bundle.tN "stackTrace" Bundle.steD) (by simp [nse_atoms]))
  obtain ⟨tyP, dP, hdP, hdnP⟩ := Cond.laysAt hfound hk Y.supp (a' (.lays nse_X Bundle.tN "suppressedExceptions" Bundle.listD) (by simp [nse_atoms]))
  obtain ⟨tyM, dM, hdM, hdnM⟩ := Cond.laysAt hfound hk hffM (a' (.lays nse_X Bundle.tN "detailMessage" "Ljava/lang/String;") (by simp [nse_atoms]))
  obtain ⟨tyB, dB, hdB, hdnB⟩ := Cond.laysAt hfound hk hffB (a' (.lays nse_X Bundle.tN "backtrace" "Ljava/lang/Object;") (by simp [nse_atoms]))
  have bC := Cond.laysApart hdB hdC hdnB hdnC (by rw [hnB, Y.causeName]; decide)
  have bS := Cond.laysApart hdB hdS hdnB hdnS (by rw [hnB, Y.stackName]; decide)
  have bP := Cond.laysApart hdB hdP hdnB hdnP (by rw [hnB, Y.suppName]; decide)
  have hskip : SkipFacts T e.platform s (fun u => u) u0 ((preparedCellV T.toThrowableT (freshCell P1.m.cls kX) a u0 sen).withEntry W.cur) :=
    ⟨{ ci198 := ci198, i198 := i198, fBack := fB }, ⟨hk198, hg198, ha198, hsB⟩, by
      have := fresh_default (c := P1.m.cls) tyB
      rw [htB] at this
      simpa [preparedCellV, Cell.setSlot, Cell.withEntry, Array.getElem?_setIfInBounds, bC, bS, bP, bC.symm, bS.symm, bP.symm, defaultValue] using this, fun _ _ => rfl⟩
  obtain ⟨tm, methC, cdC, kC, vm₁, hnC, -, -, -, -, -, -, -, hW₁, st1⟩ := Steps.initColdS (tb := p.tables) (e := e) (below := below) (s := s) (U := W) X.here hexec X.warmed hpl hown (t := Bundle.initS nse_X) rfl rfl (by decide)
    (a' (.methodLink own ic (Bundle.initS nse_X)) (by simp [nse_atoms])) (h (.instanceMethod (Bundle.initS nse_X)) (by simp [nse_atoms, Bundle.passSAtoms])) (bytes := nse_six) (maxL := 2) (h (.code (Bundle.initS nse_X) nse_six 2 none) (by simp [nse_atoms, Bundle.passSAtoms]))
    (f := g) hg (a := a) (msg := msg) (rest := .ref a :: rest) hstack hd6
  cases Option.some.inj (hnC.symm.trans hP1m)
  have X₁ := X.noted hW₁
  obtain ⟨vm₂, X₂, st2⟩ := X₁.ctorMessageOffV hexec (g := { g with stack := .ref a :: rest }) hg hsize T L Z LZ M LM (P1 :: P2 :: Ps2)
    (fun P hP => by
      rcases List.mem_cons.mp hP with rfl | hP
      · exact L1
      · rcases List.mem_cons.mp hP with rfl | hP
        · exact L2
        · exact hL2 P hP) ⟨hlink1, hsup2, hpass2⟩ (u0 := u0) (sen := sen) (self := a) hmsg (cell := freshCell P1.m.cls kX) (cellS := cellS)
    hcell (fun _ => by simp) (by simp) rfl rfl hsel0 hselF hcellS hneS hknownS (by rw [hkeep _ (hout' _)]; exact hu0) (by rw [hkeep _ (hout' _)]; exact hsen)
    (Takes.of_laid hk hord tyC (by rw [Y.causeType]; rfl)) (Takes.of_laid hk hord tyS (by rw [Y.stackType]; exact fits_refV_array _ u0)) (Takes.of_laid hk hord tyP (by rw [Y.suppType]; exact fits_refV_object _ sen))
    (Takes.of_laid hk hord tyM (by rw [Y.msgType]; exact fits_refV_object _ ⟨msg, hmsg⟩)) Y.objLocals hskip htr [] hd6
    (by simp only [List.length_cons, hlen2, List.length_nil]; omega) (by simp only [List.length_cons, hlen2, List.length_nil]; exact hRlocals)
  obtain ⟨hwalk, hrun, hended, hWU, hsame⟩ := X₂.athrowLeaves hexec (g := { g with stack := .ref a :: rest, pc := g.pc + 3 }) hg hlocked hentered hout (a := a) (rest := rest) rfl hd9
  have hlt : a < ((W.setVm vm₁).setVm vm₂).heap.size := (Array.getElem?_eq_some_iff.mp hcell).1
  have hU := heapAt_setCell_self (s := (W.setVm vm₁).setVm vm₂) (plainBareV T.toThrowableT (freshCell P1.m.cls kX) a u0 sen msg) hlt
  refine ⟨_, st1 _ (fun acts => ?_), hrun, hended, hWU, hsame.weaken (fun y hy hlt' => ?_) (Nat.le_refl _) (Nat.le_refl _), _, hU, rfl, hfound⟩
  · rw [doInvoke_state]
    exact st2 _ hwalk
  · rcases List.mem_append.mp hy with h1 | h1
    · exact h1
    · exfalso
      have hb : y.base = a := by
        simp only [List.mem_cons, List.not_mem_nil, or_false] at h1
        rcases h1 with rfl | rfl | rfl | rfl | rfl <;> rfl
      rw [hb] at hlt'
      exact Nat.not_lt.mpr hnew hlt'
end NSE
end
section
section NST
variable {l : Launch} {g : GW} {p : Program} {e : Env} {R : Room} {s : State} {m : MethodId} {args : Array Value} {below : List Frame} {meth : Method} {c : Code} {A : Nat → Prop} {cc : ByteArray} {nL : Nat} {Q : State → Prop} {ad : AD} {τ : RH} {cells slots pc : Nat} {lv : LV} {st : List Value} {mc ms : Nat}
variable {P : Option Value → AD → RH → Prop} {X : String → AD → RH → Prop}
theorem nse_mem : (∀ w ∈ nse_at RX3 139, w ∈ TW ∨ w ∈ BW) ∧ ∀ w ∈ nse_at RX3 139, vx_ot w = true := by decide +kernel
/-- 'throw new NoSuchElementException("text")' -/
theorem a_throwN (cx : Cx l g p s m args meth c A cc nL RX3) (text : String) {is : Nat} (hout : ∀ x ∈ c.exceptionTable.toList, False) (htx : (RX3, is, text) ∈ SL)
    (d0 : decode cc pc = .ok (.new 135, 3)) (d3 : decode cc (pc + 3) = .ok (.dup, 1)) (d4 : decode cc (pc + 4) = .ok (.ldc is, 2)) (d6 : decode cc (pc + 6) = .ok (.invokespecial 139, 3)) (d9 : decode cc (pc + 9) = .ok (.athrow, 1))
    (hRf : 2 + 3 < R.frames) (hRl : (st.map fun v => v.category).sum + (13 * (2 + 1) + 43) ≤ R.locals) (hRc : cells + 1 ≤ R.cells) (hRs : slots + 6 ≤ R.slots) (hc : cells + 1 ≤ mc) (hs : slots + 6 ≤ ms) (hX : X "java/util/NoSuchElementException" ad τ) : AW l g p e R s m args below meth c A nL (vx_MQ below (aQ g P A) (aX g X A) args s mc ms A) ad τ cells slots pc lv st := by
  intro H locs ls i1 i2 i3 i4
  have hts := cx.2.2.2.2.1
  have hG := cx.2.2.2.2.2.1
  have hown := cx.2.2.2.1
  have hexec := cx.1
  obtain ⟨sa, hsa⟩ := hG.2.2.2.2.2.2.1 _ htx
  have hbw : ∀ w ∈ BW, w.onTables = true := fun w hw => by
    have hb := (List.mem_filter.mp hw).2
    cases w <;> first | rfl | (simp [bw_is] at hb)
  have hat : ∀ w ∈ nse_at RX3 139, w.before args s = true := fun w hw => by
    rcases nse_mem.1 w hw with h | h
    · exact hts w h
    · exact va_Nw.use (hbw w h) (hG.2.2.2.2.2.1 w h)
  intro T hT X9
  have htr : e.platform.stackTraces = false := (show e.platform.stackTraces = l.stackTraces by rw [X9.admits.platform]).trans cx.2.2.2.2.2.2.2.2
  have Y := vx_rebase X9 (R' := { frames := R.frames, locals := R.locals, cells := 1, slots := 6 }) (Nat.le_refl _) (Nat.le_refl _) hRc hRs
  obtain ⟨s', hA⟩ : ∃ z, z = (T.setVm s.vm).setFrames (.invoking m args :: below) := ⟨_, rfl⟩
  rw [← hA] at Y
  have hvm : s'.vm = s.vm := by rw [hA]; rfl
  have hhp : s'.heap = H := by rw [hA]; exact hT
  have hW0 : s.WarmedH s'.vm := by rw [hvm]; exact State.WarmedH.refl s
  have hat' : ∀ w ∈ nse_at RX3 139, w.before args s' = true := fun w hw => vx_ot_at hW0 hvm.symm (nse_mem.2 w hw) (hat w hw)
  have hk' : (Cond.classLink RX3 135 nse_X).before args s' = true := vx_ot_at hW0 hvm.symm rfl (hts _ cl_X3_135)
  have hini' : (Cond.initialized nse_X).before args s' = true := vx_ot_at hW0 hvm.symm rfl (hts _ ini_NoSuchElementException)
  have hU' : vx_Zq Bundle.tN "UNASSIGNED_STACK" Bundle.steD A s' s'.heap := by rw [hhp]; exact vx_Zq.moved hW0.alike (hG.2.1.kept i3.2.1)
  have hN' : vx_Zq Bundle.tN "SUPPRESSED_SENTINEL" Bundle.listD A s' s'.heap := by rw [hhp]; exact vx_Zq.moved hW0.alike (hG.2.2.1.kept i3.2.1)
  have h : ∀ w ∈ nse_atoms RX3 139, w.before args s' = true := vx_own hat' (vx_isRefq hU'.1) (vx_isRefq hN'.1) hU'.2.word hN'.2.word
  have hown' : s'.vm.findClass RX3 = some m.cls := by rw [hvm]; exact hown
  have hins : (Cond.instantiable nse_X 6).before args s' = true := h _ (by simp [nse_atoms])
  obtain ⟨vm₁, cX, kX, hfX, hkX, -, -, X₁, st1⟩ := Y.newCold hexec (own := RX3) (C := nse_X) (index := 135) (n := 6) hown' hk' hins hini'
    (g := F0 m pc ls st) rfl (by rw [cx.2.1]; exact d0) (Nat.le_refl _) (Nat.le_refl _)
  generalize hT1 : (T.setVm vm₁).pushCell { cls := cX, slots := kX.instanceTypes.map defaultValue, vm := .none } = T1 at X₁ st1
  have hcat : (Value.ref T.heap.size).category = 1 := rfl
  have hcellA : T1.heap[T.heap.size]? = some (freshCell cX kX) := by rw [← hT1]; exact State.heap_pushCell_size _ _
  have d3' : decode c.code (pc + 3) = .ok (.dup, 1) := by rw [cx.2.1]; exact d3
  have d4' : decode c.code (pc + 4) = .ok (.ldc is, 2) := by rw [cx.2.1]; exact d4
  have hstr' : vk_R RX3 is text sa s' := vk_R.warm hW0 hsa
  obtain ⟨U, hsteps, hrun, hend, hW, hsame, ce, hce, hcv, hcl0⟩ := nse_ctor X₁ hexec htr (own := RX3) (ic := 139) hown' h (fun x hx => nomatch hx) hfX hkX hcellA (by rw [hhp, hT]; exact Nat.le_refl _) (msg := .ref sa) rfl
    (g := { method := m, pc := pc + 6, locals := ls, stack := .ref sa :: .ref T.heap.size :: .ref T.heap.size :: st, locked := none }) rfl (i4.1.trans cx.2.2.1.symm) rfl rfl (rest := st) rfl
    (by rw [cx.2.1]; exact d6) (by rw [cx.2.1]; exact d9) (fun x hx => (hout x hx).elim) hRf (by simp only [List.map_cons, List.sum_cons, hcat]; omega) cx.2.2.2.2.2.2.2.1
  obtain ⟨f1, f2⟩ := vx_frame hsame
  rw [hhp] at f1 f2
  have hWs : s.WarmedH U.vm := State.WarmedH.trans hW0 hW
  have hcl : s.vm.findClass nse_X = some ce.cls := by rw [hvm] at hcl0; exact hcl0
  have hall : s.sameButNew ({ U with vm := s.vm } : State) locs mc ms := by
    subst hA
    obtain ⟨e1, e2⟩ := hsame
    rw [State.setFrames_setFrames] at e1
    have h2 : (T.setVm s.vm).sameButNew ({ U with vm := s.vm } : State) [] (0 + 1) (0 + 6) := ⟨e1, e2⟩
    have h3 := X9.same.trans h2
    rw [List.append_nil] at h3
    exact h3.mono hc hs
  have hq : ∀ q : Nat, q < H.size → U.heap[q]? = H[q]? := fun q hq => f2 q hq (fun z hz => nomatch hz)
  refine ⟨U, ?_, .threw T.heap.size, hrun, hend, Or.inr ⟨T.heap.size, rfl, nse_X, ce, locs, ⟨⟨ad, τ, hX, aH_kept i1 hq, i2⟩, Nat.le_trans i3.1 f1, fun q h1 h2 => (hq q (Nat.lt_of_lt_of_le h1 i3.1)).trans (i3.2.1 q h1 h2)⟩, hce, hcv, hcl, hWs, hall, i3.2.2⟩⟩
  refine st1 _ ?_
  show Steps p.tables e below (T1.setTop { method := m, pc := pc + 3, locals := ls, stack := .ref T.heap.size :: st, locked := none }) _
  jvm_step X₁.here [X₁.here.top, hexec, d3', Value.category]
  exact X₁.ldcString hexec (own := RX3) (text := text) (index := is) (a := sa) hown' hstr'.1 hstr'.2
    (g := { method := m, pc := pc + 4, locals := ls, stack := .ref T.heap.size :: .ref T.heap.size :: st, locked := none }) rfl d4' _ hsteps
end NST
end
section
/-! numbers and searches -/
def tn (x : Int32) : Nat := x.toNatClampNeg
theorem tn_nI {n : Nat} (h : n < 2 ^ 31) : tn (nI n) = n := nI_clamp h
theorem ix_lt {k : Int32} {N : Nat} (h0 : ¬ k < 0) (h1 : ¬ nI N ≤ k) (hN : N < 2 ^ 31) : k = nI (tn k) ∧ tn k < N := by
  rcases pk_ix k hN with h | h | ⟨j, hj, rfl⟩
  · exact absurd h h0
  · exact absurd h h1
  · rw [tn_nI (Nat.lt_trans hj hN)]; exact ⟨rfl, hj⟩
theorem ix_lt' {k : Int32} {N : Nat} (h0 : ¬ k < 0) (h1 : k < nI N) (hN : N < 2 ^ 31) : k = nI (tn k) ∧ tn k < N := ix_lt h0 (fun h => by
  rw [Int32.lt_iff_toInt_lt] at h1
  rw [Int32.le_iff_toInt_le] at h
  omega) hN
/-- the first i from i0 on, of f many, with p -/
def fsti (p : Nat → Bool) : Nat → Nat → Option Nat
  | 0, _ => none
  | f + 1, i => if p i then some i else fsti p f (i + 1)
/-- the last below n with p -/
def lsti (p : Nat → Bool) : Nat → Option Nat
  | 0 => none
  | i + 1 => if p i then some i else lsti p i
def oI : Option Nat → Int32
  | none => -1
  | some i => nI i
theorem fsti_some {p : Nat → Bool} : ∀ {f i j : Nat}, fsti p f i = some j → i ≤ j ∧ j < i + f ∧ p j = true ∧ ∀ k, i ≤ k → k < j → p k = false
  | 0, _, _, h => by cases h
  | f + 1, i, j, h => by
    unfold fsti at h
    by_cases hp : p i = true
    · rw [if_pos hp] at h; cases h; exact ⟨Nat.le_refl _, by omega, hp, fun k h1 h2 => by omega⟩
    · rw [if_neg hp] at h
      obtain ⟨h1, h2, h3, h4⟩ := fsti_some h
      refine ⟨by omega, by omega, h3, fun k h5 h6 => ?_⟩
      by_cases hk : k = i
      · subst hk; simpa using hp
      · exact h4 k (by omega) h6
theorem fsti_none {p : Nat → Bool} : ∀ {f i : Nat}, fsti p f i = none → ∀ k, i ≤ k → k < i + f → p k = false
  | 0, _, _, k, h1, h2 => by omega
  | f + 1, i, h, k, h1, h2 => by
    unfold fsti at h
    by_cases hp : p i = true
    · rw [if_pos hp] at h; cases h
    · rw [if_neg hp] at h
      by_cases hk : k = i
      · subst hk; simpa using hp
      · exact fsti_none h k (by omega) (by omega)
theorem fsti_cong {p q : Nat → Bool} : ∀ {f i : Nat}, (∀ k, i ≤ k → k < i + f → p k = q k) → fsti p f i = fsti q f i
  | 0, _, _ => rfl
  | f + 1, i, h => by
    unfold fsti
    rw [h i (Nat.le_refl _) (by omega), fsti_cong (fun k h1 h2 => h k (by omega) (by omega))]
theorem lsti_some {p : Nat → Bool} : ∀ {n j : Nat}, lsti p n = some j → j < n ∧ p j = true ∧ ∀ k, j < k → k < n → p k = false
  | 0, _, h => by cases h
  | n + 1, j, h => by
    unfold lsti at h
    by_cases hp : p n = true
    · rw [if_pos hp] at h; cases h; exact ⟨by omega, hp, fun k h1 h2 => by omega⟩
    · rw [if_neg hp] at h
      obtain ⟨h1, h2, h3⟩ := lsti_some h
      refine ⟨by omega, h2, fun k h5 h6 => ?_⟩
      by_cases hk : k = n
      · subst hk; simpa using hp
      · exact h3 k h5 (by omega)
theorem lsti_none {p : Nat → Bool} : ∀ {n : Nat}, lsti p n = none → ∀ k, k < n → p k = false
  | 0, _, k, h2 => by omega
  | n + 1, h, k, h2 => by
    unfold lsti at h
    by_cases hp : p n = true
    · rw [if_pos hp] at h; cases h
    · rw [if_neg hp] at h
      by_cases hk : k = n
      · subst hk; simpa using hp
      · exact lsti_none h k (by omega)
theorem lsti_cong {p q : Nat → Bool} : ∀ {n : Nat}, (∀ k, k < n → p k = q k) → lsti p n = lsti q n
  | 0, _ => rfl
  | n + 1, h => by
    unfold lsti
    rw [h n (by omega), lsti_cong (fun k h1 => h k (by omega))]
/-- a sum of f over i0 ≤ k < i0 + n, from the left, onto x -/
def sumf (f : Nat → Int32) : Nat → Nat → Int32 → Int32
  | 0, _, x => x
  | n + 1, i, x => sumf f n (i + 1) (x + f i)
theorem sumf_cong {f h : Nat → Int32} : ∀ {n i : Nat} {x : Int32}, (∀ k, i ≤ k → k < i + n → f k = h k) → sumf f n i x = sumf h n i x
  | 0, _, _, _ => rfl
  | n + 1, i, x, e => by
    unfold sumf
    rw [e i (Nat.le_refl _) (by omega), sumf_cong (fun k h1 h2 => e k (by omega) (by omega))]
theorem sumf_add (f : Nat → Int32) : ∀ (n i : Nat) (x y : Int32), sumf f n i (x + y) = x + sumf f n i y
  | 0, _, _, _ => rfl
  | n + 1, i, x, y => by
    unfold sumf
    rw [Int32.add_assoc, sumf_add f n (i + 1) x (y + f i)]
/-! calendars -/
abbrev calO (ad : AD) (la n : Nat) (rs : Int32) : va_E := .inr (4, [.ref (ad la), .int (nI n), .int rs])
abbrev arI (g : GW) (n : Nat) (f : Nat → Int32) : va_E := .inl (g.2.1 1, n, .inl f)
abbrev arZ (g : GW) (n : Nat) (f : Nat → Int32) : va_E := .inl (g.2.1 2, n, .inl f)
abbrev arC (g : GW) (n : Nat) (f : Nat → Int32) : va_E := .inl (g.2.1 0, n, .inl f)
abbrev arQ (g : GW) (n : Nat) (f : Nat → Option Nat) : va_E := .inl (g.2.1 3, n, .inr (.inr (.inr (.inr f))))
def kAt (n : Nat) (lf : Nat → Int32) (k : Int32) : Int32 := if k < 0 ∨ nI n ≤ k then 0 else lf (tn k)
def kPos (lf : Nat → Int32) : Nat → Bool := fun i => decide (0 < lf i)
def kFst (n : Nat) (lf : Nat → Int32) : Option Nat := fsti (kPos lf) n 0
def kLst (n : Nat) (lf : Nat → Int32) : Option Nat := lsti (kPos lf) n
/-- what takeFrom(k) leaves -/
def kTake (lf : Nat → Int32) (k : Int32) : Nat → Int32 := if k < 0 ∨ nI 8 ≤ k then lf else if 0 < lf (tn k) then va_up lf (tn k) (lf (tn k) - 1) else lf
def kAhead (n : Nat) (lf : Nat → Int32) (k : Int32) : Int32 := sumf (fun i => lf i) (if k < 0 then 0 else if tn k < n then tn k else n) 0 0
/-- follow(kind): the row, the reserve, the answer -/
def kFollow (n : Nat) (lf : Nat → Int32) (rs : Int32) (kd : Int32) : (Nat → Int32) × Int32 × Int32 :=
  if kd = 100 ∨ kd = 109 then (kTake lf (oI (kFst n lf)), rs, -1)
  else if kd = 108 then (if 0 < rs then (lf, rs - 1, -1) else (kTake lf (oI (kLst n lf)), rs, oI (kLst n lf)))
  else (lf, rs, -1)
def kAllot (n : Nat) (lf : Nat → Int32) (rs w : Int32) : Nat × (Nat → Int32) × Int32 × Int32 :=
  if rs < w ∨ 8 ≤ n then (n, lf, rs, -1) else (n + 1, va_up lf n w, rs - w, nI n)
theorem up_self {α : Type} (f : Nat → α) (k : Nat) : va_up f k (f k) = f := by
  funext j
  by_cases h : j = k
  · subst h; rw [va_up_self]
  · rw [va_up_ne _ _ h]
theorem up_some {τ : RH} {r : Nat} {e : va_E} (h : τ r = some e) : va_up τ r (some e) = τ := by rw [← h]; exact up_self τ r
theorem r_ne {τ : RH} {r r' : Nat} {e e' : va_E} (h : τ r = some e) (h' : τ r' = some e') (hn : e ≠ e') : r ≠ r' := fun q => hn (by rw [q] at h; exact Option.some.inj (h.symm.trans h'))
end
section
theorem vI {x y : Int32} (h : x = y) : some (Value.int x) = some (Value.int y) := by rw [h]
section LOOPS
variable {l : Launch} {g : GW} {p : Program} {e : Env} {R : Room} {s : State} {m : MethodId} {args : Array Value} {below : List Frame} {meth : Method} {c : Code} {A : Nat → Prop} {nL : Nat} {Q : State → Prop} {ad : AD} {τ : RH} {cells slots pc : Nat} {lv : LV} {st : List Value}
/-- a loop: its head with a state, a fuel that falls -/
theorem a_loop {σ : Type} (Inv : Nat → σ → Prop) (Af : σ → AD) (Tf : σ → RH) (LVf : σ → LV) (f0 : Nat) (s0 : σ) (h0 : Inv f0 s0) (hA : Af s0 = ad) (hT : Tf s0 = τ) (hL : LVf s0 = lv)
    (step : ∀ f s', Inv f s' → (∀ f' s'', f' < f → Inv f' s'' → AW l g p e R s m args below meth c A nL Q (Af s'') (Tf s'') cells slots pc (LVf s'') st) → AW l g p e R s m args below meth c A nL Q (Af s') (Tf s') cells slots pc (LVf s') st) : AW l g p e R s m args below meth c A nL Q ad τ cells slots pc lv st := by
  subst hA; subst hT; subst hL
  have key : ∀ n f s', f < n → Inv f s' → AW l g p e R s m args below meth c A nL Q (Af s') (Tf s') cells slots pc (LVf s') st := by
    intro n
    induction n with
    | zero => intro f s' h; exact absurd h (Nat.not_lt_zero _)
    | succ n ih => intro f s' h hi; exact step f s' hi (fun f' s'' h1 h2 => ih f' s'' (Nat.lt_of_lt_of_le h1 (Nat.le_of_lt_succ h)) h2)
  exact key (f0 + 1) f0 s0 (Nat.lt_succ_self _) h0
end LOOPS
theorem kk_lt {k : Int32} {n : Nat} (h0 : ¬ k < 0) (h1 : ¬ nI n ≤ k) (hn : n ≤ 8) : k < nI 8 := by
  obtain ⟨h2, h3⟩ := ix_lt h0 h1 (by omega)
  rw [h2]; exact nI_lt (by omega) (by decide)
theorem kAt_out {n : Nat} {lf : Nat → Int32} {k : Int32} (h : k < 0 ∨ nI n ≤ k) : (0 : Int32) = kAt n lf k := by unfold kAt; rw [if_pos h]
theorem kAt_in {n : Nat} {lf : Nat → Int32} {k : Int32} (h0 : ¬ k < 0) (h1 : ¬ nI n ≤ k) : lf (tn k) = kAt n lf k := by unfold kAt; rw [if_neg (fun h => h.elim h0 h1)]
theorem kAt_nI {n i : Nat} {lf : Nat → Int32} (hi : i < n) (hn : n ≤ 8) : kAt n lf (nI i) = lf i := by rw [← kAt_in (nI_pos (by omega)) (nI_ge hi (by omega)), tn_nI (by omega)]
theorem not_le_pos {x : Int32} (h : ¬ x ≤ 0) : 0 < x := by
  rw [Int32.le_iff_toInt_le] at h
  rw [Int32.lt_iff_toInt_lt]
  omega
theorem le_not_pos {x : Int32} (h : x ≤ 0) : ¬ 0 < x := by
  rw [Int32.le_iff_toInt_le] at h
  rw [Int32.lt_iff_toInt_lt]
  omega
section MMX
variable {l : Launch} {g : GW} {p : Program} {e : Env} {R : Room} {s : State} {m : MethodId} {args : Array Value} {below : List Frame} {meth : Method} {c : Code} {A : Nat → Prop} {cc : ByteArray} {nL : Nat} {own : String} {Q : State → Prop} {ad : AD} {τ : RH} {cells slots pc : Nat} {lv : LV} {st : List Value}
theorem cd_mmax : Cond.code Lib.Math.max.name Lib.Math.max.code 2 (some .int) ∈ TW := cd_J9_max_7cf53
theorem a_mmax (cx : Cx l g p s m args meth c A cc nL own) {index : Nat} {x y : Int32} (hlink : Cond.methodLink own index yJ9_max_7cf53 ∈ TW) (hRf : 1 ≤ R.frames) (hRl : (st.map fun v => v.category).sum + 13 ≤ R.locals) (d : decode cc pc = .ok (.invokestatic index, 3)) (kk : AW l g p e R s m args below meth c A nL Q ad τ cells slots (pc + 3) lv (.int (if x < y then y else x) :: st)) (hc : cells ≤ R.cells := by exact Nat.le_of_ble_eq_true rfl) (hs : slots ≤ R.slots := by exact Nat.le_of_ble_eq_true rfl) : AW l g p e R s m args below meth c A nL Q ad τ cells slots pc lv (.int y :: .int x :: st) := fun H locs ls i1 i2 i3 i4 =>
  va_mmax cx.1 cx.2.1 (cx.2.2.1.trans i4.1.symm) cx.2.2.2.1 (cx.2.2.2.2.1 _ hlink) (cx.2.2.2.2.1 _ st_J9_max_7cf53) (cx.2.2.2.2.1 _ ini_J9) (cx.2.2.2.2.1 _ cd_mmax) hRf hRl hc hs d (kk H locs ls i1 i2 i3 i4)
end MMX
section NEWG
variable {l : Launch} {g : GW} {p : Program} {e : Env} {R : Room} {s : State} {m : MethodId} {args : Array Value} {below : List Frame} {meth : Method} {c : Code} {A : Nat → Prop} {cc : ByteArray} {nL : Nat} {own : String} {Q : State → Prop} {ad : AD} {τ : RH} {cells slots pc : Nat} {lv : LV} {st : List Value}
/-- an object at the fresh role r0, the addresses anew -/
theorem a_newG (cx : Cx l g p s m args meth c A cc nL own) {C : String} {T : u_T} {N ci index : Nat} {fs : List Value} (r0 : Nat) (h0 : τ r0 = none) (hin : ∀ w ∈ u_ws C T N, w ∈ TW) (ty : Nat → FieldType) (hty : ∀ k, k < N → parseFieldDescriptor (T k).2.2.1 = some (ty k)) (hcl : Cond.classLink own index C ∈ TW) (hinst : Cond.instantiable C N ∈ TW) (hini : Cond.initialized C ∈ TW) (hc : vwCl[ci]? = some (C, T, N)) (hfs : ∀ j, j < N → defaultValue (ty j) = vp_V fs j) (hcells : cells + 1 ≤ R.cells) (hslots : slots + N ≤ R.slots) (d : decode cc pc = .ok (.new index, 3))
    (kk : ∀ ad' : AD, (∀ x, x ≠ r0 → ad' x = ad x) → AW l g p e R s m args below meth c A nL Q ad' (va_up τ r0 (some (.inr (ci, fs)))) (cells + 1) (slots + N) (pc + 3) lv (.ref (ad' r0) :: st)) : AW l g p e R s m args below meth c A nL Q ad τ cells slots pc lv st :=
  a_new cx r0 h0 hin ty hty hcl hinst hini hc hfs hcells hslots d (fun q => by
    have h := kk (va_up ad r0 q) (fun x hx => va_up_ne _ _ hx)
    rw [va_up_self] at h
    exact h)
theorem a_newaG (cx : Cx l g p s m args meth c A cc nL own) {atype : ArrayType} {ty : FieldType} {n : Int32} {N t0 : Nat} {cA : ClassId} (r0 : Nat) (h0 : τ r0 = none) (pl : (Nat → Int32) ⊕ (Nat → Int64) ⊕ (Nat → UInt32) ⊕ (Nat → UInt64) ⊕ (Nat → Option Nat)) (harr : Cond.arrayClass (newarray.typeOf atype) ∈ TW) (hty : newarray.typeOf atype = ty) (ht : (aTys g)[t0]? = some (cA, ty)) (hq : va_RA s cA ty = (s.vm.findClass ("[" ++ ty.toString) = some cA)) (ha : ∀ cA : ClassId, vp_cell cA (N, pl) = arrV cA N (fun _ => defaultValue ty)) (hn : ¬ n < 0) (hN : n.toNatClampNeg = N) (hbytes : N * componentBytes ty ≤ 536870912) (hcells : cells + 1 ≤ R.cells) (hslots : slots + N ≤ R.slots) (d : decode cc pc = .ok (.newarray atype, 2))
    (kk : ∀ ad' : AD, (∀ x, x ≠ r0 → ad' x = ad x) → AW l g p e R s m args below meth c A nL Q ad' (va_up τ r0 (some (.inl (cA, N, pl)))) (cells + 1) (slots + N) (pc + 2) lv (.ref (ad' r0) :: st)) : AW l g p e R s m args below meth c A nL Q ad τ cells slots pc lv (.int n :: st) :=
  a_newa cx r0 h0 pl harr hty ht hq ha hn hN hbytes hcells hslots d (fun q => by
    have h := kk (va_up ad r0 q) (fun x hx => va_up_ne _ _ hx)
    rw [va_up_self] at h
    exact h)
theorem a_newqG (cx : Cx l g p s m args meth c A cc nL own) {index : Nat} {n : Int32} {N : Nat} (r0 : Nat) (h0 : τ r0 = none) (hclink : Cond.classLink own index "java/lang/Object" ∈ TW) (hn : ¬ n < 0) (hN : n.toNatClampNeg = N) (hbytes : N * 4 ≤ 536870912) (hcells : cells + 1 ≤ R.cells) (hslots : slots + N ≤ R.slots) (d : decode cc pc = .ok (.anewarray index, 3))
    (kk : ∀ ad' : AD, (∀ x, x ≠ r0 → ad' x = ad x) → AW l g p e R s m args below meth c A nL Q ad' (va_up τ r0 (some (.inl (g.2.1 3, N, .inr (.inr (.inr (.inr (fun _ => none)))))))) (cells + 1) (slots + N) (pc + 3) lv (.ref (ad' r0) :: st)) : AW l g p e R s m args below meth c A nL Q ad τ cells slots pc lv (.int n :: st) :=
  a_newq cx r0 h0 hclink hn hN hbytes hcells hslots d (fun q => by
    have h := kk (va_up ad r0 q) (fun x hx => va_up_ne _ _ hx)
    rw [va_up_self] at h
    exact h)
/-- an object of a known class is an Object -/
theorem a_sub (cx : Cx l g p s m args meth c A cc nL own) {C : String} {T : u_T} {N ci : Nat} (hca : Cond.castable C "java/lang/Object" ∈ BW) (hw : vwCl[ci]? = some (C, T, N)) : ∀ comp : ClassId, s.vm.findClass "java/lang/Object" = some comp → s.vm.assignable (g.1.1 ci) comp = true := by
  intro comp hc
  obtain ⟨c3, c4, h3, h4, h5⟩ := Cond.castable_spec (args := args) (s := s) (va_Nw.use (A := args) rfl (cx.2.2.2.2.2.1.2.2.2.2.2.1 _ hca))
  have h6 := ((cx_K cx).1 ci _ hw).2.1
  rw [← Option.some.inj (h3.symm.trans h6), ← Option.some.inj (h4.symm.trans hc)]
  exact h5
end NEWG
abbrev dvJx4a65c : List Value := [.int 0, .null, .int 0]
theorem dvJx4a65c_ok : ∀ j, j < 3 → defaultValue (tyJx4a65c j) = vp_V dvJx4a65c j := by
  intro j hj
  match j, hj with
  | 0, _ => rfl
  | 1, _ => rfl
  | 2, _ => rfl
  | j + 3, h => exact absurd h (by omega)
abbrev dvX0 : List Value := [.int 0, .int 0, .null, .null, .null, .null, .int 0, .int 0, .int 0, .int 0, .int 0]
theorem dvX0_ok : ∀ j, j < 11 → defaultValue (tyX0 j) = vp_V dvX0 j := by
  intro j hj
  match j, hj with
  | 0, _ => rfl
  | 1, _ => rfl
  | 2, _ => rfl
  | 3, _ => rfl
  | 4, _ => rfl
  | 5, _ => rfl
  | 6, _ => rfl
  | 7, _ => rfl
  | 8, _ => rfl
  | 9, _ => rfl
  | 10, _ => rfl
  | j + 11, h => exact absurd h (by omega)
abbrev dvX1 : List Value := [.null, .int 0, .int 0]
theorem dvX1_ok : ∀ j, j < 3 → defaultValue (tyX1 j) = vp_V dvX1 j := by
  intro j hj
  match j, hj with
  | 0, _ => rfl
  | 1, _ => rfl
  | 2, _ => rfl
  | j + 3, h => exact absurd h (by omega)
abbrev dvX2 : List Value := [.int 0, .null, .int 0, .int 0, .int 0, .int 0, .int 0, .int 0, .int 0, .int 0, .int 0, .int 0, .int 0]
theorem dvX2_ok : ∀ j, j < 13 → defaultValue (tyX2 j) = vp_V dvX2 j := by
  intro j hj
  match j, hj with
  | 0, _ => rfl
  | 1, _ => rfl
  | 2, _ => rfl
  | 3, _ => rfl
  | 4, _ => rfl
  | 5, _ => rfl
  | 6, _ => rfl
  | 7, _ => rfl
  | 8, _ => rfl
  | 9, _ => rfl
  | 10, _ => rfl
  | 11, _ => rfl
  | 12, _ => rfl
  | j + 13, h => exact absurd h (by omega)
abbrev dvX3 : List Value := [.null, .null, .null, .null, .int 0]
theorem dvX3_ok : ∀ j, j < 5 → defaultValue (tyX3 j) = vp_V dvX3 j := by
  intro j hj
  match j, hj with
  | 0, _ => rfl
  | 1, _ => rfl
  | 2, _ => rfl
  | 3, _ => rfl
  | 4, _ => rfl
  | j + 5, h => exact absurd h (by omega)
abbrev dvX4 : List Value := [.int 0, .int 0, .int 0, .int 0, .int 0, .null, .null, .null, .null, .null, .null, .null, .null, .null, .null, .null, .null, .null, .null, .null, .null, .null, .null, .null, .null, .null, .null, .null]
theorem dvX4_ok : ∀ j, j < 28 → defaultValue (tyX4 j) = vp_V dvX4 j := by
  intro j hj
  match j, hj with
  | 0, _ => rfl
  | 1, _ => rfl
  | 2, _ => rfl
  | 3, _ => rfl
  | 4, _ => rfl
  | 5, _ => rfl
  | 6, _ => rfl
  | 7, _ => rfl
  | 8, _ => rfl
  | 9, _ => rfl
  | 10, _ => rfl
  | 11, _ => rfl
  | 12, _ => rfl
  | 13, _ => rfl
  | 14, _ => rfl
  | 15, _ => rfl
  | 16, _ => rfl
  | 17, _ => rfl
  | 18, _ => rfl
  | 19, _ => rfl
  | 20, _ => rfl
  | 21, _ => rfl
  | 22, _ => rfl
  | 23, _ => rfl
  | 24, _ => rfl
  | 25, _ => rfl
  | 26, _ => rfl
  | 27, _ => rfl
  | j + 28, h => exact absurd h (by omega)
end
section
theorem xm1 (x : Int32) : x + Int32.ofInt (-1) = x - 1 := by rw [Int32.sub_eq_add_neg]; rfl
set_option maxHeartbeats 4000000 in
set_option maxRecDepth 100000 in
/-- leftAt(k): the row at k, 0 outside -/
theorem sp_X1_leftAt {l : Launch} {g : GW} {ad : AD} {τ : RH} {c0 la n : Nat} {lf : Nat → Int32} {rs : Int32} {k : Int32} (hc : τ c0 = some (calO ad la n rs)) (hl : τ la = some (arI g 8 lf)) (hn : n ≤ 8) : Sp l g yX1_leftAt (.code yX1_leftAt cX1_leftAt 2 (some .int)) (rmv 1 0 0) [.ref (ad c0), .int k] ad τ 0 0 (fun v ad' τ' => v = some (.int (kAt n lf k)) ∧ ad' = ad ∧ τ' = τ) (NoX) := by
  refine Sp.of 0 [some (.ref (ad c0)), some (.int k)] (by decide +kernel) (Nat.le_of_ble_eq_true rfl) rfl ?_
  intro p e s m args below meth c A cx hout hr hnm
  refine a_iload_n cx dX1_leftAt_0 rfl rfl ?_
  refine a_if_lt cx (tgt := 21) dX1_leftAt_1 (by decide) (fun c_1 => ?_) (fun c_1 => ?_)
  · refine a_iconst cx (v := 0) dX1_leftAt_21 (by decide) ?_
    exact a_iret cx hr dX1_leftAt_22 (Nat.le_of_ble_eq_true rfl) (Nat.le_of_ble_eq_true rfl) ⟨vI (kAt_out (by first | exact Or.inl c_1 | exact Or.inr c_9)), rfl, rfl⟩
  · refine a_iload_n cx dX1_leftAt_4 rfl rfl ?_
    refine a_aload_n cx dX1_leftAt_5 rfl rfl ?_
    refine gf_X1_15 cx hc dX1_leftAt_6 ?_
    refine a_icmp_ge cx (tgt := 21) dX1_leftAt_9 (by decide) (fun c_9 => ?_) (fun c_9 => ?_)
    · refine a_iconst cx (v := 0) dX1_leftAt_21 (by decide) ?_
      exact a_iret cx hr dX1_leftAt_22 (Nat.le_of_ble_eq_true rfl) (Nat.le_of_ble_eq_true rfl) ⟨vI (kAt_out (by first | exact Or.inl c_1 | exact Or.inr c_9)), rfl, rfl⟩
    · refine a_iload_n cx dX1_leftAt_12 rfl rfl ?_
      refine a_aload_n cx dX1_leftAt_13 rfl rfl ?_
      refine gf_X1_9 cx hc dX1_leftAt_14 ?_
      refine a_alen cx 1 hl rfl rfl dX1_leftAt_17 ?_
      refine a_icmp_lt cx (tgt := 23) dX1_leftAt_18 (by decide) (fun c_18 => ?_) (fun c_18 => absurd (kk_lt c_1 c_9 hn) c_18)
      refine a_aload_n cx dX1_leftAt_23 rfl rfl ?_
      refine gf_X1_9 cx hc dX1_leftAt_24 ?_
      refine a_iload_n cx dX1_leftAt_27 rfl rfl ?_
      refine a_ild cx (tn k) hl ((ix_lt c_1 c_9 (by omega)).1) (Nat.lt_of_lt_of_le (ix_lt c_1 c_9 (by omega)).2 hn) (by decide) dX1_leftAt_28 ?_
      exact a_iret cx hr dX1_leftAt_29 (Nat.le_of_ble_eq_true rfl) (Nat.le_of_ble_eq_true rfl) ⟨vI (kAt_in c_1 c_9), rfl, rfl⟩

theorem kAh_le {n mm : Nat} {k : Int32} (h : mm = (if k < 0 then 0 else if tn k < n then tn k else n)) : mm ≤ n := by
  rw [h]; split
  · exact Nat.zero_le _
  · split <;> omega
theorem kAh_tn {k : Int32} (h : ¬ k < 0) : k = nI (tn k) ∧ tn k < 2 ^ 31 := by
  obtain ⟨j, hj, rfl⟩ := nI_of h
  rw [tn_nI hj]; exact ⟨rfl, hj⟩
theorem kAh_lt {n mm j : Nat} {k : Int32} (h : mm = (if k < 0 then 0 else if tn k < n then tn k else n)) (hj : j ≤ mm) (h1 : ¬ k ≤ nI j) (h2 : ¬ nI n ≤ nI j) : j < mm := by
  have hle := kAh_le h
  rcases Nat.lt_or_ge j mm with q | q
  · exact q
  · exfalso
    have e : j = mm := by omega
    subst e
    by_cases h0 : k < 0
    · exact h1 (by
        rw [if_pos h0] at h; subst h
        rw [Int32.lt_iff_toInt_lt] at h0
        rw [Int32.le_iff_toInt_le]
        have : (nI 0).toInt = 0 := rfl
        have h3 : (0 : Int32).toInt = 0 := rfl
        omega)
    · rw [if_neg h0] at h
      obtain ⟨e1, e2⟩ := kAh_tn h0
      by_cases ht : tn k < n
      · rw [if_pos ht] at h; subst h
        exact h1 (by rw [← e1]; exact Int32.le_refl _)
      · rw [if_neg ht] at h; subst h
        exact h2 (Int32.le_refl _)
theorem kAh_end {n mm j f : Nat} {k : Int32} (h : mm = (if k < 0 then 0 else if tn k < n then tn k else n)) (hj : j + f = mm) (h1 : k ≤ nI j ∨ nI n ≤ nI j) (hn : n ≤ 8 := by assumption) : f = 0 := by
  have hle := kAh_le h
  rcases h1 with h1 | h1
  · by_cases h0 : k < 0
    · rw [if_pos h0] at h; omega
    · rw [if_neg h0] at h
      obtain ⟨e1, e2⟩ := kAh_tn h0
      have : tn k ≤ j := by
        rw [e1] at h1
        exact (nI_leI e2 (by omega)).mp h1
      split at h <;> omega
  · have := (nI_leI (by omega) (by omega)).mp h1
    omega
set_option maxHeartbeats 4000000 in
set_option maxRecDepth 100000 in
/-- leftAheadOf(k): the sum of the places ahead of k -/
theorem sp_X1_leftAheadOf {l : Launch} {g : GW} {ad : AD} {τ : RH} {c0 la n : Nat} {lf : Nat → Int32} {rs : Int32} {k : Int32} (hc : τ c0 = some (calO ad la n rs)) (hl : τ la = some (arI g 8 lf)) (hn : n ≤ 8) : Sp l g yX1_leftAheadOf (.code yX1_leftAheadOf cX1_leftAheadOf 4 (some .int)) (rmv 2 0 0) [.ref (ad c0), .int k] ad τ 0 0 (fun v ad' τ' => v = some (.int (kAhead n lf k)) ∧ ad' = ad ∧ τ' = τ) (NoX) := by
  refine Sp.of 2 [some (.ref (ad c0)), some (.int k), none, none] (by decide +kernel) (Nat.le_of_ble_eq_true rfl) rfl ?_
  intro p e s m args below meth c A cx hout hr hnm
  obtain ⟨mm, hmm⟩ : ∃ mm, mm = (if k < 0 then 0 else if tn k < n then tn k else n) := ⟨_, rfl⟩
  have hka : kAhead n lf k = sumf (fun i => lf i) mm 0 0 := by unfold kAhead; rw [hmm]
  refine a_iconst cx (v := 0) dX1_leftAheadOf_0 (by decide) ?_
  refine a_istore_n2 cx dX1_leftAheadOf_1 rfl (by decide) (by intro w h; first | (cases h; rfl) | (cases h; assumption) | (cases h; done)) ?_
  refine a_iconst cx (v := 0) dX1_leftAheadOf_2 (by decide) ?_
  refine a_istore_n3 cx dX1_leftAheadOf_3 rfl (by decide) (by intro w h; first | (cases h; rfl) | (cases h; assumption) | (cases h; done)) ?_
  refine a_loop (σ := Nat × Int32) (fun f s => s.1 + f = mm ∧ sumf (fun i => lf i) f s.1 s.2 = kAhead n lf k) (fun _ => ad) (fun _ => τ) (fun s => [some (.ref (ad c0)), some (.int k), some (.int s.2), some (.int (nI s.1))]) mm (0, 0) ⟨Nat.zero_add _, hka.symm⟩ rfl rfl rfl ?_
  rintro f ⟨j, x⟩ ⟨hj, hx⟩ ih
  dsimp only at hj hx ⊢
  refine a_iload_n cx dX1_leftAheadOf_4 rfl rfl ?_
  refine a_iload_n cx dX1_leftAheadOf_5 rfl rfl ?_
  refine a_icmp_ge cx (tgt := 31) dX1_leftAheadOf_6 (by decide) (fun c_6 => ?_) (fun c_6 => ?_)
  · refine a_iload_n cx dX1_leftAheadOf_31 rfl rfl ?_
    exact a_iret cx hr dX1_leftAheadOf_32 (Nat.le_of_ble_eq_true rfl) (Nat.le_of_ble_eq_true rfl) ⟨vI (by have hz : f = 0 := kAh_end hmm hj (by first | exact Or.inl c_6 | exact Or.inr c_14); subst hz; exact hx), rfl, rfl⟩
  · refine a_iload_n cx dX1_leftAheadOf_9 rfl rfl ?_
    refine a_aload_n cx dX1_leftAheadOf_10 rfl rfl ?_
    refine gf_X1_15 cx hc dX1_leftAheadOf_11 ?_
    refine a_icmp_ge cx (tgt := 31) dX1_leftAheadOf_14 (by decide) (fun c_14 => ?_) (fun c_14 => ?_)
    · refine a_iload_n cx dX1_leftAheadOf_31 rfl rfl ?_
      exact a_iret cx hr dX1_leftAheadOf_32 (Nat.le_of_ble_eq_true rfl) (Nat.le_of_ble_eq_true rfl) ⟨vI (by have hz : f = 0 := kAh_end hmm hj (by first | exact Or.inl c_6 | exact Or.inr c_14); subst hz; exact hx), rfl, rfl⟩
    · have hjm : j < mm := kAh_lt hmm (by omega) c_6 c_14
      obtain ⟨f, rfl⟩ : ∃ f9, f = f9 + 1 := ⟨f - 1, by omega⟩
      refine a_iload_n cx dX1_leftAheadOf_17 rfl rfl ?_
      refine a_aload_n cx dX1_leftAheadOf_18 rfl rfl ?_
      refine a_iload_n cx dX1_leftAheadOf_19 rfl rfl ?_
      refine a_callV cx 1 (sp_X1_leftAt (k := nI j) hc hl hn) hc rfl ml_X1_22 im_X1_leftAt se_X1_leftAt ini_X1 cd_X1_leftAt rfl rfl (by decide +kernel) rfl rfl ⟨(Nat.le_of_ble_eq_true rfl), (Nat.le_of_ble_eq_true rfl)⟩ (Nat.le_of_ble_eq_true rfl) dX1_leftAheadOf_20 ⟨(Nat.le_of_ble_eq_true rfl), (Nat.le_of_ble_eq_true rfl)⟩ (fun _ _ _ h => h.elim) (fun v9 ad9 τ9 hP => ?_)
      obtain ⟨rfl, h2, h3⟩ := hP
      replace h2 := h2.symm
      subst h2
      replace h3 := h3.symm
      subst h3
      rw [kAt_nI (Nat.lt_of_lt_of_le hjm (kAh_le hmm)) hn]
      refine a_iadd cx dX1_leftAheadOf_23 ?_
      refine a_istore_n2 cx dX1_leftAheadOf_24 rfl (by decide) (by intro w h; first | (cases h; rfl) | (cases h; assumption) | (cases h; done)) ?_
      refine a_iinc3 cx (nI (j + 1)) dX1_leftAheadOf_25 (nI_1 j) (by decide) (by intro w h; first | (cases h; rfl) | (cases h; assumption) | (cases h; done)) ?_
      refine a_goto cx (tgt := 4) dX1_leftAheadOf_28 (by decide) ?_
      exact ih f (j + 1, x + lf j) (Nat.lt_succ_self f) ⟨by omega, hx⟩

set_option maxHeartbeats 4000000 in
set_option maxRecDepth 100000 in
/-- firstPlace() -/
theorem sp_X1_firstPlace {l : Launch} {g : GW} {ad : AD} {τ : RH} {c0 la n : Nat} {lf : Nat → Int32} {rs : Int32} (hc : τ c0 = some (calO ad la n rs)) (hl : τ la = some (arI g 8 lf)) (hn : n ≤ 8) : Sp l g yX1_firstPlace (.code yX1_firstPlace cX1_firstPlace 2 (some .int)) (rmv 2 0 0) [.ref (ad c0)] ad τ 0 0 (fun v ad' τ' => v = some (.int (oI (kFst n lf))) ∧ ad' = ad ∧ τ' = τ) (NoX) := by
  refine Sp.of 1 [some (.ref (ad c0)), none] (by decide +kernel) (Nat.le_of_ble_eq_true rfl) rfl ?_
  intro p e s m args below meth c A cx hout hr hnm
  refine a_iconst cx (v := 0) dX1_firstPlace_0 (by decide) ?_
  refine a_istore_n1 cx dX1_firstPlace_1 rfl (by decide) (by intro w h; first | (cases h; rfl) | (cases h; assumption) | (cases h; done)) ?_
  refine a_loop (σ := Nat) (fun f j => j + f = n ∧ fsti (kPos lf) f j = kFst n lf) (fun _ => ad) (fun _ => τ) (fun j => [some (.ref (ad c0)), some (.int (nI j))]) n 0 ⟨Nat.zero_add _, rfl⟩ rfl rfl rfl ?_
  rintro f j ⟨hj, hx⟩ ih
  try dsimp only
  refine a_iload_n cx dX1_firstPlace_2 rfl rfl ?_
  refine a_aload_n cx dX1_firstPlace_3 rfl rfl ?_
  refine gf_X1_15 cx hc dX1_firstPlace_4 ?_
  refine a_icmp_ge cx (tgt := 26) dX1_firstPlace_7 (by decide) (fun c_7 => ?_) (fun c_7 => ?_)
  · refine a_iconst cx (v := -1) dX1_firstPlace_26 (by decide) ?_
    exact a_iret cx hr dX1_firstPlace_27 (Nat.le_of_ble_eq_true rfl) (Nat.le_of_ble_eq_true rfl) ⟨vI (by have h9 := (nI_leI (by omega) (by omega)).mp c_7; have hz : f = 0 := (by omega); subst hz; rw [← hx]; rfl), rfl, rfl⟩
  · have hjn : j < n := by
      rcases Nat.lt_or_ge j n with q | q
      · exact q
      · exact absurd (nI_le q (by omega)) c_7
    obtain ⟨f, rfl⟩ : ∃ f9, f = f9 + 1 := ⟨f - 1, by omega⟩
    unfold fsti at hx
    refine a_aload_n cx dX1_firstPlace_10 rfl rfl ?_
    refine a_iload_n cx dX1_firstPlace_11 rfl rfl ?_
    refine a_callV cx 1 (sp_X1_leftAt (k := nI j) hc hl hn) hc rfl ml_X1_22 im_X1_leftAt se_X1_leftAt ini_X1 cd_X1_leftAt rfl rfl (by decide +kernel) rfl rfl ⟨(Nat.le_of_ble_eq_true rfl), (Nat.le_of_ble_eq_true rfl)⟩ (Nat.le_of_ble_eq_true rfl) dX1_firstPlace_12 ⟨(Nat.le_of_ble_eq_true rfl), (Nat.le_of_ble_eq_true rfl)⟩ (fun _ _ _ h => h.elim) (fun v9 ad9 τ9 hP => ?_)
    obtain ⟨rfl, h2, h3⟩ := hP
    replace h2 := h2.symm
    subst h2
    replace h3 := h3.symm
    subst h3
    rw [kAt_nI hjn hn]
    refine a_if_le cx (tgt := 20) dX1_firstPlace_15 (by decide) (fun c_15 => ?_) (fun c_15 => ?_)
    · refine a_iinc1 cx (nI (j + 1)) dX1_firstPlace_20 (nI_1 j) (by decide) (by intro w h; first | (cases h; rfl) | (cases h; assumption) | (cases h; done)) ?_
      refine a_goto cx (tgt := 2) dX1_firstPlace_23 (by decide) ?_
      rw [if_neg (by simpa [kPos] using le_not_pos c_15)] at hx
      exact ih f (j + 1) (Nat.lt_succ_self f) ⟨by omega, hx⟩
    · refine a_iload_n cx dX1_firstPlace_18 rfl rfl ?_
      exact a_iret cx hr dX1_firstPlace_19 (Nat.le_of_ble_eq_true rfl) (Nat.le_of_ble_eq_true rfl) ⟨vI (by rw [if_pos (by simpa [kPos] using not_le_pos c_15)] at hx; rw [← hx]; rfl), rfl, rfl⟩

theorem kLs_0 {n j : Nat} (hjn : j ≤ n) (hn : n ≤ 8) (h : nI j - 1 < 0) : j = 0 := by
  cases j with
  | zero => rfl
  | succ j => rw [nI_pred] at h; exact absurd h (nI_pos (by omega))
set_option maxHeartbeats 4000000 in
set_option maxRecDepth 100000 in
/-- lastPlace() -/
theorem sp_X1_lastPlace {l : Launch} {g : GW} {ad : AD} {τ : RH} {c0 la n : Nat} {lf : Nat → Int32} {rs : Int32} (hc : τ c0 = some (calO ad la n rs)) (hl : τ la = some (arI g 8 lf)) (hn : n ≤ 8) : Sp l g yX1_lastPlace (.code yX1_lastPlace cX1_lastPlace 2 (some .int)) (rmv 2 0 0) [.ref (ad c0)] ad τ 0 0 (fun v ad' τ' => v = some (.int (oI (kLst n lf))) ∧ ad' = ad ∧ τ' = τ) (NoX) := by
  refine Sp.of 1 [some (.ref (ad c0)), none] (by decide +kernel) (Nat.le_of_ble_eq_true rfl) rfl ?_
  intro p e s m args below meth c A cx hout hr hnm
  refine a_aload_n cx dX1_lastPlace_0 rfl rfl ?_
  refine gf_X1_15 cx hc dX1_lastPlace_1 ?_
  refine a_iconst cx (v := 1) dX1_lastPlace_4 (by decide) ?_
  refine a_isub cx dX1_lastPlace_5 ?_
  refine a_istore_n1 cx dX1_lastPlace_6 rfl (by decide) (by intro w h; first | (cases h; rfl) | (cases h; assumption) | (cases h; done)) ?_
  refine a_loop (σ := Nat) (fun f j => j = f ∧ j ≤ n ∧ lsti (kPos lf) j = kLst n lf) (fun _ => ad) (fun _ => τ) (fun j => [some (.ref (ad c0)), some (.int (nI j - 1))]) n n ⟨rfl, Nat.le_refl _, rfl⟩ rfl rfl rfl ?_
  rintro f j ⟨rfl, hjn, hx⟩ ih
  try dsimp only
  refine a_iload_n cx dX1_lastPlace_7 rfl rfl ?_
  refine a_if_lt cx (tgt := 27) dX1_lastPlace_8 (by decide) (fun c_8 => ?_) (fun c_8 => ?_)
  · refine a_iconst cx (v := -1) dX1_lastPlace_27 (by decide) ?_
    exact a_iret cx hr dX1_lastPlace_28 (Nat.le_of_ble_eq_true rfl) (Nat.le_of_ble_eq_true rfl) ⟨vI (by have hz : j = 0 := kLs_0 hjn hn c_8; subst hz; rw [← hx]; rfl), rfl, rfl⟩
  · obtain ⟨j, rfl⟩ : ∃ j9, j = j9 + 1 := by
      cases j with
      | zero => exact absurd (by decide) c_8
      | succ j => exact ⟨j, rfl⟩
    rw [nI_pred]
    unfold lsti at hx
    refine a_aload_n cx dX1_lastPlace_11 rfl rfl ?_
    refine a_iload_n cx dX1_lastPlace_12 rfl rfl ?_
    refine a_callV cx 1 (sp_X1_leftAt (k := nI j) hc hl hn) hc rfl ml_X1_22 im_X1_leftAt se_X1_leftAt ini_X1 cd_X1_leftAt rfl rfl (by decide +kernel) rfl rfl ⟨(Nat.le_of_ble_eq_true rfl), (Nat.le_of_ble_eq_true rfl)⟩ (Nat.le_of_ble_eq_true rfl) dX1_lastPlace_13 ⟨(Nat.le_of_ble_eq_true rfl), (Nat.le_of_ble_eq_true rfl)⟩ (fun _ _ _ h => h.elim) (fun v9 ad9 τ9 hP => ?_)
    obtain ⟨rfl, h2, h3⟩ := hP
    replace h2 := h2.symm
    subst h2
    replace h3 := h3.symm
    subst h3
    rw [kAt_nI hjn hn]
    refine a_if_le cx (tgt := 21) dX1_lastPlace_16 (by decide) (fun c_16 => ?_) (fun c_16 => ?_)
    · refine a_iinc1 cx (nI j - 1) dX1_lastPlace_21 (xm1 _) (by decide) (by intro w h; first | (cases h; rfl) | (cases h; assumption) | (cases h; done)) ?_
      refine a_goto cx (tgt := 7) dX1_lastPlace_24 (by decide) ?_
      rw [if_neg (by simpa [kPos] using le_not_pos c_16)] at hx
      exact ih j j (Nat.lt_succ_self j) ⟨rfl, by omega, hx⟩
    · refine a_iload_n cx dX1_lastPlace_19 rfl rfl ?_
      exact a_iret cx hr dX1_lastPlace_20 (Nat.le_of_ble_eq_true rfl) (Nat.le_of_ble_eq_true rfl) ⟨vI (by rw [if_pos (by simpa [kPos] using not_le_pos c_16)] at hx; rw [← hx]; rfl), rfl, rfl⟩

theorem kTake_out {lf : Nat → Int32} {k : Int32} (h : k < 0 ∨ nI 8 ≤ k) : kTake lf k = lf := by unfold kTake; rw [if_pos h]
theorem kTake_no {lf : Nat → Int32} {k : Int32} (h0 : ¬ k < 0) (h1 : ¬ nI 8 ≤ k) (h2 : ¬ 0 < lf (tn k)) : kTake lf k = lf := by unfold kTake; rw [if_neg (fun h => h.elim h0 h1), if_neg h2]
theorem kTake_in {lf : Nat → Int32} {k : Int32} (h0 : ¬ k < 0) (h1 : ¬ nI 8 ≤ k) (h2 : 0 < lf (tn k)) : kTake lf k = va_up lf (tn k) (lf (tn k) - 1) := by unfold kTake; rw [if_neg (fun h => h.elim h0 h1), if_pos h2]
set_option maxHeartbeats 4000000 in
set_option maxRecDepth 100000 in
/-- takeFrom(k) -/
theorem sp_X1_takeFrom {l : Launch} {g : GW} {ad : AD} {τ : RH} {c0 la n : Nat} {lf : Nat → Int32} {rs : Int32} {k : Int32} (hc : τ c0 = some (calO ad la n rs)) (hl : τ la = some (arI g 8 lf)) : Sp l g yX1_takeFrom (.code yX1_takeFrom cX1_takeFrom 2 none) (rmv 1 0 0) [.ref (ad c0), .int k] ad τ 0 0 (fun v ad' τ' => v = none ∧ ad' = ad ∧ τ' = va_up τ la (some (arI g 8 (kTake lf k)))) (NoX) := by
  refine Sp.of 0 [some (.ref (ad c0)), some (.int k)] (by decide +kernel) (Nat.le_of_ble_eq_true rfl) rfl ?_
  intro p e s m args below meth c A cx hout hr hnm
  refine a_iload_n cx dX1_takeFrom_0 rfl rfl ?_
  refine a_if_lt cx (tgt := 32) dX1_takeFrom_1 (by decide) (fun c_1 => ?_) (fun c_1 => ?_)
  · exact a_vret cx hr dX1_takeFrom_32 (Nat.le_of_ble_eq_true rfl) (Nat.le_of_ble_eq_true rfl) ⟨rfl, rfl, by first | (rw [kTake_out (Or.inl c_1), up_some hl]) | (rw [kTake_out (Or.inr c_10), up_some hl]) | (rw [kTake_no c_1 c_10 (le_not_pos c_19), up_some hl]) | (rw [kTake_in c_1 c_10 (not_le_pos c_19)])⟩
  · refine a_iload_n cx dX1_takeFrom_4 rfl rfl ?_
    refine a_aload_n cx dX1_takeFrom_5 rfl rfl ?_
    refine gf_X1_9 cx hc dX1_takeFrom_6 ?_
    refine a_alen cx 1 hl rfl rfl dX1_takeFrom_9 ?_
    refine a_icmp_ge cx (tgt := 32) dX1_takeFrom_10 (by decide) (fun c_10 => ?_) (fun c_10 => ?_)
    · exact a_vret cx hr dX1_takeFrom_32 (Nat.le_of_ble_eq_true rfl) (Nat.le_of_ble_eq_true rfl) ⟨rfl, rfl, by first | (rw [kTake_out (Or.inl c_1), up_some hl]) | (rw [kTake_out (Or.inr c_10), up_some hl]) | (rw [kTake_no c_1 c_10 (le_not_pos c_19), up_some hl]) | (rw [kTake_in c_1 c_10 (not_le_pos c_19)])⟩
    · refine a_aload_n cx dX1_takeFrom_13 rfl rfl ?_
      refine gf_X1_9 cx hc dX1_takeFrom_14 ?_
      refine a_iload_n cx dX1_takeFrom_17 rfl rfl ?_
      refine a_ild cx (tn k) hl ((ix_lt c_1 c_10 (by decide)).1) ((ix_lt c_1 c_10 (by decide)).2) (by decide) dX1_takeFrom_18 ?_
      refine a_if_le cx (tgt := 32) dX1_takeFrom_19 (by decide) (fun c_19 => ?_) (fun c_19 => ?_)
      · exact a_vret cx hr dX1_takeFrom_32 (Nat.le_of_ble_eq_true rfl) (Nat.le_of_ble_eq_true rfl) ⟨rfl, rfl, by first | (rw [kTake_out (Or.inl c_1), up_some hl]) | (rw [kTake_out (Or.inr c_10), up_some hl]) | (rw [kTake_no c_1 c_10 (le_not_pos c_19), up_some hl]) | (rw [kTake_in c_1 c_10 (not_le_pos c_19)])⟩
      · refine a_aload_n cx dX1_takeFrom_22 rfl rfl ?_
        refine gf_X1_9 cx hc dX1_takeFrom_23 ?_
        refine a_iload_n cx dX1_takeFrom_26 rfl rfl ?_
        refine a_dup2 cx dX1_takeFrom_27 rfl rfl ?_
        refine a_ild cx (tn k) hl ((ix_lt c_1 c_10 (by decide)).1) ((ix_lt c_1 c_10 (by decide)).2) (by decide) dX1_takeFrom_28 ?_
        refine a_iconst cx (v := 1) dX1_takeFrom_29 (by decide) ?_
        refine a_isub cx dX1_takeFrom_30 ?_
        refine a_ist cx (tn k) hl ((ix_lt c_1 c_10 (by decide)).1) ((ix_lt c_1 c_10 (by decide)).2) (by decide)  dX1_takeFrom_31 ?_
        exact a_vret cx hr dX1_takeFrom_32 (Nat.le_of_ble_eq_true rfl) (Nat.le_of_ble_eq_true rfl) ⟨rfl, rfl, by first | (rw [kTake_out (Or.inl c_1), up_some hl]) | (rw [kTake_out (Or.inr c_10), up_some hl]) | (rw [kTake_no c_1 c_10 (le_not_pos c_19), up_some hl]) | (rw [kTake_in c_1 c_10 (not_le_pos c_19)])⟩

theorem kLose_r {n : Nat} {lf : Nat → Int32} {rs : Int32} (h : ¬ rs ≤ 0) : kFollow n lf rs 108 = (lf, rs - 1, -1) := by
  unfold kFollow; rw [if_neg (by decide), if_pos rfl, if_pos (not_le_pos h)]
theorem kLose_t {n : Nat} {lf : Nat → Int32} {rs : Int32} (h : rs ≤ 0) : kFollow n lf rs 108 = (kTake lf (oI (kLst n lf)), rs, oI (kLst n lf)) := by
  unfold kFollow; rw [if_neg (by decide), if_pos rfl, if_neg (le_not_pos h)]
set_option maxHeartbeats 4000000 in
set_option maxRecDepth 100000 in
/-- lose() -/
theorem sp_X1_lose {l : Launch} {g : GW} {ad : AD} {τ : RH} {c0 la n : Nat} {lf : Nat → Int32} {rs : Int32} (hc : τ c0 = some (calO ad la n rs)) (hl : τ la = some (arI g 8 lf)) (hn : n ≤ 8) : Sp l g yX1_lose (.code yX1_lose cX1_lose 2 (some .int)) (rmv 3 0 0) [.ref (ad c0)] ad τ 0 0 (fun v ad' τ' => v = some (.int (kFollow n lf rs 108).2.2) ∧ ad' = ad ∧ τ' = va_up (va_up τ la (some (arI g 8 (kFollow n lf rs 108).1))) c0 (some (calO ad la n (kFollow n lf rs 108).2.1))) (NoX) := by
  refine Sp.of 1 [some (.ref (ad c0)), none] (by decide +kernel) (Nat.le_of_ble_eq_true rfl) rfl ?_
  intro p e s m args below meth c A cx hout hr hnm
  refine a_aload_n cx dX1_lose_0 rfl rfl ?_
  refine gf_X1_19 cx hc dX1_lose_1 ?_
  refine a_if_le cx (tgt := 19) dX1_lose_4 (by decide) (fun c_4 => ?_) (fun c_4 => ?_)
  · refine a_aload_n cx dX1_lose_19 rfl rfl ?_
    refine a_callV cx 0 (sp_X1_lastPlace hc hl hn) hc rfl ml_X1_37 im_X1_lastPlace se_X1_lastPlace ini_X1 cd_X1_lastPlace rfl rfl (by decide +kernel) rfl rfl ⟨(Nat.le_of_ble_eq_true rfl), (Nat.le_of_ble_eq_true rfl)⟩ (Nat.le_of_ble_eq_true rfl) dX1_lose_20 ⟨(Nat.le_of_ble_eq_true rfl), (Nat.le_of_ble_eq_true rfl)⟩ (fun _ _ _ h => h.elim) (fun v9 ad9 τ9 hP => ?_)
    obtain ⟨rfl, h2, h3⟩ := hP
    replace h2 := h2.symm
    subst h2
    replace h3 := h3.symm
    subst h3
    refine a_istore_n1 cx dX1_lose_23 rfl (by decide) (by intro w h; first | (cases h; rfl) | (cases h; assumption) | (cases h; done)) ?_
    refine a_aload_n cx dX1_lose_24 rfl rfl ?_
    refine a_iload_n cx dX1_lose_25 rfl rfl ?_
    refine a_callV cx 1 (sp_X1_takeFrom (k := oI (kLst n lf)) hc hl) hc rfl ml_X1_30 im_X1_takeFrom se_X1_takeFrom ini_X1 cd_X1_takeFrom rfl rfl (by decide +kernel) rfl rfl ⟨(Nat.le_of_ble_eq_true rfl), (Nat.le_of_ble_eq_true rfl)⟩ (Nat.le_of_ble_eq_true rfl) dX1_lose_26 ⟨(Nat.le_of_ble_eq_true rfl), (Nat.le_of_ble_eq_true rfl)⟩ (fun _ _ _ h => h.elim) (fun v9 ad9 τ9 hP => ?_)
    obtain ⟨rfl, h2, h3⟩ := hP
    replace h2 := h2.symm
    subst h2
    replace h3 := h3.symm
    subst h3
    refine a_iload_n cx dX1_lose_29 rfl rfl ?_
    exact a_iret cx hr dX1_lose_30 (Nat.le_of_ble_eq_true rfl) (Nat.le_of_ble_eq_true rfl) ⟨vI (by rw [kLose_t c_4]), rfl, by rw [kLose_t c_4]; dsimp only; rw [up_some (r := c0) (by rw [va_up_ne _ _ (r_ne hc hl (by simp))]; exact hc)]⟩
  · refine a_aload_n cx dX1_lose_7 rfl rfl ?_
    refine a_dup cx dX1_lose_8 rfl ?_
    refine gf_X1_19 cx hc dX1_lose_9 ?_
    refine a_iconst cx (v := 1) dX1_lose_12 (by decide) ?_
    refine a_isub cx dX1_lose_13 ?_
    refine pf_X1_19 cx hc dX1_lose_14 ?_
    refine a_iconst cx (v := -1) dX1_lose_17 (by decide) ?_
    exact a_iret cx hr dX1_lose_18 (Nat.le_of_ble_eq_true rfl) (Nat.le_of_ble_eq_true rfl) ⟨vI (by rw [kLose_r c_4]), rfl, by rw [kLose_r c_4, up_some hl]⟩
end
section
abbrev prO (nu : Int32) (ln : Value) (us sc wa da qp sl sp dn ms lo ow : Int32) : va_E := .inr (5, [.int nu, ln, .int us, .int sc, .int wa, .int da, .int qp, .int sl, .int sp, .int dn, .int ms, .int lo, .int ow])
theorem kF_done {n : Nat} {lf : Nat → Int32} {rs kd : Int32} (h : kd = 100 ∨ kd = 109) : kFollow n lf rs kd = (kTake lf (oI (kFst n lf)), rs, -1) := by unfold kFollow; rw [if_pos h]
theorem kF_idle {n : Nat} {lf : Nat → Int32} {rs kd : Int32} (h1 : ¬ kd = 100) (h2 : ¬ kd = 109) (h3 : ¬ kd = 108) : kFollow n lf rs kd = (lf, rs, -1) := by unfold kFollow; rw [if_neg (fun h => h.elim h1 h2), if_neg h3]
theorem up_keep {τ : RH} {c0 la : Nat} {e0 e1 e2 : va_E} (hc : τ c0 = some e0) (hl : τ la = some e1) (hn : e0 ≠ e1) : va_up (va_up τ la (some e2)) c0 (some e0) = va_up τ la (some e2) := up_some (by rw [va_up_ne _ _ (r_ne hc hl hn)]; exact hc)
set_option maxHeartbeats 4000000 in
set_option maxRecDepth 100000 in
/-- follow(kind) -/
theorem sp_X1_follow {l : Launch} {g : GW} {ad : AD} {τ : RH} {c0 la n : Nat} {lf : Nat → Int32} {rs : Int32} {kd : Int32} (hc : τ c0 = some (calO ad la n rs)) (hl : τ la = some (arI g 8 lf)) (hn : n ≤ 8) : Sp l g yX1_follow (.code yX1_follow cX1_follow 2 (some .int)) (rmv 4 0 0) [.ref (ad c0), .int kd] ad τ 0 0 (fun v ad' τ' => v = some (.int (kFollow n lf rs kd).2.2) ∧ ad' = ad ∧ τ' = va_up (va_up τ la (some (arI g 8 ((kFollow n lf rs kd).1)))) c0 (some (calO ad la (n) ((kFollow n lf rs kd).2.1)))) (NoX) := by
  refine Sp.of 0 [some (.ref (ad c0)), some (.int kd)] (by decide +kernel) (Nat.le_of_ble_eq_true rfl) rfl ?_
  intro p e s m args below meth c A cx hout hr hnm
  refine a_iload_n cx dX1_follow_0 rfl rfl ?_
  refine a_bipush cx (v := 100) dX1_follow_1 (by decide) ?_
  refine a_icmp_eq cx (tgt := 12) dX1_follow_3 (by decide) (fun c_3 => ?_) (fun c_3 => ?_)
  · refine a_aload_n cx dX1_follow_12 rfl rfl ?_
    refine a_aload_n cx dX1_follow_13 rfl rfl ?_
    refine a_callV cx 0 (sp_X1_firstPlace hc hl hn) hc rfl ml_X1_26 im_X1_firstPlace se_X1_firstPlace ini_X1 cd_X1_firstPlace rfl rfl (by decide +kernel) rfl rfl ⟨(Nat.le_of_ble_eq_true rfl), (Nat.le_of_ble_eq_true rfl)⟩ (Nat.le_of_ble_eq_true rfl) dX1_follow_14 ⟨(Nat.le_of_ble_eq_true rfl), (Nat.le_of_ble_eq_true rfl)⟩ (fun _ _ _ h => h.elim) (fun v9 ad9 τ9 hP => ?_)
    obtain ⟨rfl, h2, h3⟩ := hP
    replace h2 := h2.symm
    subst h2
    replace h3 := h3.symm
    subst h3
    refine a_callV cx 1 (sp_X1_takeFrom (k := oI (kFst n lf)) hc hl) hc rfl ml_X1_30 im_X1_takeFrom se_X1_takeFrom ini_X1 cd_X1_takeFrom rfl rfl (by decide +kernel) rfl rfl ⟨(Nat.le_of_ble_eq_true rfl), (Nat.le_of_ble_eq_true rfl)⟩ (Nat.le_of_ble_eq_true rfl) dX1_follow_17 ⟨(Nat.le_of_ble_eq_true rfl), (Nat.le_of_ble_eq_true rfl)⟩ (fun _ _ _ h => h.elim) (fun v9 ad9 τ9 hP => ?_)
    obtain ⟨rfl, h2, h3⟩ := hP
    replace h2 := h2.symm
    subst h2
    replace h3 := h3.symm
    subst h3
    refine a_iload_n cx dX1_follow_20 rfl rfl ?_
    refine a_bipush cx (v := 108) dX1_follow_21 (by decide) ?_
    refine a_icmp_ne cx (tgt := 31) dX1_follow_23 (by decide) (fun c_23 => ?_) (fun c_23 => absurd (c_3.symm.trans c_23) (by decide))
    refine a_iconst cx (v := -1) dX1_follow_31 (by decide) ?_
    exact a_iret cx hr dX1_follow_32 (Nat.le_of_ble_eq_true rfl) (Nat.le_of_ble_eq_true rfl) ⟨vI (by rw [kF_done (Or.inl c_3)]), rfl, by rw [kF_done (Or.inl c_3)]; exact (up_keep hc hl (by simp)).symm⟩
  · refine a_iload_n cx dX1_follow_6 rfl rfl ?_
    refine a_bipush cx (v := 109) dX1_follow_7 (by decide) ?_
    refine a_icmp_ne cx (tgt := 20) dX1_follow_9 (by decide) (fun c_9 => ?_) (fun c_9 => ?_)
    · refine a_iload_n cx dX1_follow_20 rfl rfl ?_
      refine a_bipush cx (v := 108) dX1_follow_21 (by decide) ?_
      refine a_icmp_ne cx (tgt := 31) dX1_follow_23 (by decide) (fun c_23 => ?_) (fun c_23 => ?_)
      · refine a_iconst cx (v := -1) dX1_follow_31 (by decide) ?_
        exact a_iret cx hr dX1_follow_32 (Nat.le_of_ble_eq_true rfl) (Nat.le_of_ble_eq_true rfl) ⟨vI (by rw [kF_idle c_3 c_9 c_23]), rfl, by rw [kF_idle c_3 c_9 c_23]; dsimp only; rw [up_some hl, up_some hc]⟩
      · refine a_aload_n cx dX1_follow_26 rfl rfl ?_
        refine a_callV cx 0 (sp_X1_lose hc hl hn) hc rfl ml_X1_34 im_X1_lose se_X1_lose ini_X1 cd_X1_lose rfl rfl (by decide +kernel) rfl rfl ⟨(Nat.le_of_ble_eq_true rfl), (Nat.le_of_ble_eq_true rfl)⟩ (Nat.le_of_ble_eq_true rfl) dX1_follow_27 ⟨(Nat.le_of_ble_eq_true rfl), (Nat.le_of_ble_eq_true rfl)⟩ (fun _ _ _ h => h.elim) (fun v9 ad9 τ9 hP => ?_)
        obtain ⟨rfl, h2, h3⟩ := hP
        replace h2 := h2.symm
        subst h2
        replace h3 := h3.symm
        subst h3
        exact a_iret cx hr dX1_follow_30 (Nat.le_of_ble_eq_true rfl) (Nat.le_of_ble_eq_true rfl) ⟨vI (by rw [c_23]), rfl, by rw [c_23]⟩
    · refine a_aload_n cx dX1_follow_12 rfl rfl ?_
      refine a_aload_n cx dX1_follow_13 rfl rfl ?_
      refine a_callV cx 0 (sp_X1_firstPlace hc hl hn) hc rfl ml_X1_26 im_X1_firstPlace se_X1_firstPlace ini_X1 cd_X1_firstPlace rfl rfl (by decide +kernel) rfl rfl ⟨(Nat.le_of_ble_eq_true rfl), (Nat.le_of_ble_eq_true rfl)⟩ (Nat.le_of_ble_eq_true rfl) dX1_follow_14 ⟨(Nat.le_of_ble_eq_true rfl), (Nat.le_of_ble_eq_true rfl)⟩ (fun _ _ _ h => h.elim) (fun v9 ad9 τ9 hP => ?_)
      obtain ⟨rfl, h2, h3⟩ := hP
      replace h2 := h2.symm
      subst h2
      replace h3 := h3.symm
      subst h3
      refine a_callV cx 1 (sp_X1_takeFrom (k := oI (kFst n lf)) hc hl) hc rfl ml_X1_30 im_X1_takeFrom se_X1_takeFrom ini_X1 cd_X1_takeFrom rfl rfl (by decide +kernel) rfl rfl ⟨(Nat.le_of_ble_eq_true rfl), (Nat.le_of_ble_eq_true rfl)⟩ (Nat.le_of_ble_eq_true rfl) dX1_follow_17 ⟨(Nat.le_of_ble_eq_true rfl), (Nat.le_of_ble_eq_true rfl)⟩ (fun _ _ _ h => h.elim) (fun v9 ad9 τ9 hP => ?_)
      obtain ⟨rfl, h2, h3⟩ := hP
      replace h2 := h2.symm
      subst h2
      replace h3 := h3.symm
      subst h3
      refine a_iload_n cx dX1_follow_20 rfl rfl ?_
      refine a_bipush cx (v := 108) dX1_follow_21 (by decide) ?_
      refine a_icmp_ne cx (tgt := 31) dX1_follow_23 (by decide) (fun c_23 => ?_) (fun c_23 => absurd (c_9.symm.trans c_23) (by decide))
      refine a_iconst cx (v := -1) dX1_follow_31 (by decide) ?_
      exact a_iret cx hr dX1_follow_32 (Nat.le_of_ble_eq_true rfl) (Nat.le_of_ble_eq_true rfl) ⟨vI (by rw [kF_done (Or.inr c_9)]), rfl, by rw [kF_done (Or.inr c_9)]; exact (up_keep hc hl (by simp)).symm⟩

theorem kA_no {n : Nat} {lf : Nat → Int32} {rs w : Int32} (h : rs < w ∨ 8 ≤ n) : kAllot n lf rs w = (n, lf, rs, -1) := by unfold kAllot; rw [if_pos h]
theorem kA_yes {n : Nat} {lf : Nat → Int32} {rs w : Int32} (h1 : ¬ rs < w) (h2 : ¬ 8 ≤ n) : kAllot n lf rs w = (n + 1, va_up lf n w, rs - w, nI n) := by unfold kAllot; rw [if_neg (fun h => h.elim h1 h2)]
theorem nge8 {n : Nat} (h : ¬ nI n < Int32.ofNat 8) : 8 ≤ n := by
  rcases Nat.lt_or_ge n 8 with q | q
  · exact absurd (nI_lt q (by decide)) h
  · exact q
theorem up_up {α : Type} (f : Nat → α) (k : Nat) (x y : α) : va_up (va_up f k x) k y = va_up f k y := by
  funext j
  by_cases h : j = k
  · subst h; rw [va_up_self, va_up_self]
  · rw [va_up_ne _ _ h, va_up_ne _ _ h, va_up_ne _ _ h]
theorem up_com {α : Type} (f : Nat → α) {i k : Nat} (x y : α) (h : i ≠ k) : va_up (va_up f i x) k y = va_up (va_up f k y) i x := by
  funext j
  by_cases h1 : j = k
  · subst h1; rw [va_up_self, va_up_ne _ _ h.symm, va_up_self]
  · rw [va_up_ne _ _ h1]
    by_cases h2 : j = i
    · subst h2; rw [va_up_self, va_up_self]
    · rw [va_up_ne _ _ h2, va_up_ne _ _ h2, va_up_ne _ _ h1]
set_option maxHeartbeats 4000000 in
set_option maxRecDepth 100000 in
/-- allot(wanted) -/
theorem sp_X1_allot {l : Launch} {g : GW} {ad : AD} {τ : RH} {c0 la n : Nat} {lf : Nat → Int32} {rs : Int32} {w : Int32} (hc : τ c0 = some (calO ad la n rs)) (hl : τ la = some (arI g 8 lf)) (hn : n ≤ 8) : Sp l g yX1_allot (.code yX1_allot cX1_allot 3 (some .int)) (rmv 1 0 0) [.ref (ad c0), .int w] ad τ 0 0 (fun v ad' τ' => v = some (.int (kAllot n lf rs w).2.2.2) ∧ ad' = ad ∧ τ' = va_up (va_up τ la (some (arI g 8 ((kAllot n lf rs w).2.1)))) c0 (some (calO ad la ((kAllot n lf rs w).1) ((kAllot n lf rs w).2.2.1)))) (NoX) := by
  refine Sp.of 1 [some (.ref (ad c0)), some (.int w), none] (by decide +kernel) (Nat.le_of_ble_eq_true rfl) rfl ?_
  intro p e s m args below meth c A cx hout hr hnm
  refine a_iload_n cx dX1_allot_0 rfl rfl ?_
  refine a_aload_n cx dX1_allot_1 rfl rfl ?_
  refine gf_X1_19 cx hc dX1_allot_2 ?_
  refine a_icmp_gt cx (tgt := 20) dX1_allot_5 (by decide) (fun c_5 => ?_) (fun c_5 => ?_)
  · refine a_iconst cx (v := -1) dX1_allot_20 (by decide) ?_
    exact a_iret cx hr dX1_allot_21 (Nat.le_of_ble_eq_true rfl) (Nat.le_of_ble_eq_true rfl) ⟨vI (by rw [kA_no (Or.inl c_5)]), rfl, by rw [kA_no (Or.inl c_5)]; dsimp only; rw [up_some hl, up_some hc]⟩
  · refine a_aload_n cx dX1_allot_8 rfl rfl ?_
    refine gf_X1_15 cx hc dX1_allot_9 ?_
    refine a_aload_n cx dX1_allot_12 rfl rfl ?_
    refine gf_X1_9 cx hc dX1_allot_13 ?_
    refine a_alen cx 1 hl rfl rfl dX1_allot_16 ?_
    refine a_icmp_lt cx (tgt := 22) dX1_allot_17 (by decide) (fun c_17 => ?_) (fun c_17 => ?_)
    · have hn8 : n < 8 := (nI_ltI (by omega) (by decide)).mp c_17
      have hcl : la ≠ c0 := r_ne hl hc (by simp)
      refine a_aload_n cx dX1_allot_22 rfl rfl ?_
      refine gf_X1_15 cx hc dX1_allot_23 ?_
      refine a_istore_n2 cx dX1_allot_26 rfl (by decide) (by intro w h; first | (cases h; rfl) | (cases h; assumption) | (cases h; done)) ?_
      refine a_aload_n cx dX1_allot_27 rfl rfl ?_
      refine gf_X1_9 cx hc dX1_allot_28 ?_
      refine a_iload_n cx dX1_allot_31 rfl rfl ?_
      refine a_iload_n cx dX1_allot_32 rfl rfl ?_
      refine a_ist cx (n) hl (rfl) (hn8) (by decide)  dX1_allot_33 ?_
      have hc : (va_up τ la (some (arI g 8 (va_up lf n w)))) c0 = some (calO ad la n rs) := by rw [va_up_ne _ _ hcl.symm]; exact hc
      refine a_aload_n cx dX1_allot_34 rfl rfl ?_
      refine a_dup cx dX1_allot_35 rfl ?_
      refine gf_X1_19 cx hc dX1_allot_36 ?_
      refine a_iload_n cx dX1_allot_39 rfl rfl ?_
      refine a_isub cx dX1_allot_40 ?_
      refine pf_X1_19 cx hc dX1_allot_41 ?_
      have hc : (va_up (va_up τ la (some (arI g 8 (va_up lf n w)))) c0 (some (calO ad la n (rs - w)))) c0 = some (calO ad la n (rs - w)) := va_up_self _ _ _
      refine a_aload_n cx dX1_allot_44 rfl rfl ?_
      refine a_dup cx dX1_allot_45 rfl ?_
      refine gf_X1_15 cx hc dX1_allot_46 ?_
      refine a_iconst cx (v := 1) dX1_allot_49 (by decide) ?_
      refine a_iadd cx dX1_allot_50 ?_
      refine pf_X1_15 cx hc dX1_allot_51 ?_
      refine a_iload_n cx dX1_allot_54 rfl rfl ?_
      exact a_iret cx hr dX1_allot_55 (Nat.le_of_ble_eq_true rfl) (Nat.le_of_ble_eq_true rfl) ⟨vI (by rw [kA_yes c_5 (by omega)]), rfl, by rw [kA_yes c_5 (by omega)]; dsimp only; rw [up_up, nI_1]⟩
    · refine a_iconst cx (v := -1) dX1_allot_20 (by decide) ?_
      exact a_iret cx hr dX1_allot_21 (Nat.le_of_ble_eq_true rfl) (Nat.le_of_ble_eq_true rfl) ⟨vI (by rw [kA_no (Or.inr (nge8 c_17))]), rfl, by rw [kA_no (Or.inr (nge8 c_17))]; dsimp only; rw [up_some hl, up_some hc]⟩

set_option maxHeartbeats 4000000 in
set_option maxRecDepth 100000 in
/-- begin(shifts) -/
theorem sp_X1_begin {l : Launch} {g : GW} {ad : AD} {τ : RH} {c0 la n : Nat} {lf : Nat → Int32} {rs : Int32} {w : Int32} (hc : τ c0 = some (calO ad la n rs)) : Sp l g yX1_begin (.code yX1_begin cX1_begin 2 none) (rmv 1 0 0) [.ref (ad c0), .int w] ad τ 0 0 (fun v ad' τ' => v = none ∧ ad' = ad ∧ τ' = va_up τ c0 (some (calO ad la 0 w))) (NoX) := by
  refine Sp.of 0 [some (.ref (ad c0)), some (.int w)] (by decide +kernel) (Nat.le_of_ble_eq_true rfl) rfl ?_
  intro p e s m args below meth c A cx hout hr hnm
  refine a_aload_n cx dX1_begin_0 rfl rfl ?_
  refine a_iconst cx (v := 0) dX1_begin_1 (by decide) ?_
  refine pf_X1_15 cx hc dX1_begin_2 ?_
  have hc : (va_up τ c0 (some (calO ad la 0 rs))) c0 = some (calO ad la 0 rs) := va_up_self _ _ _
  refine a_aload_n cx dX1_begin_5 rfl rfl ?_
  refine a_iload_n cx dX1_begin_6 rfl rfl ?_
  refine pf_X1_19 cx hc dX1_begin_7 ?_
  exact a_vret cx hr dX1_begin_10 (Nat.le_of_ble_eq_true rfl) (Nat.le_of_ble_eq_true rfl) ⟨rfl, rfl, up_up _ _ _ _⟩

theorem if_1 {c : Prop} [Decidable c] (h : c) : (1 : Int32) = if c then 1 else 0 := by rw [if_pos h]
theorem if_0 {c : Prop} [Decidable c] (h : ¬ c) : (0 : Int32) = if c then 1 else 0 := by rw [if_neg h]
set_option maxHeartbeats 4000000 in
set_option maxRecDepth 100000 in
/-- hasSample() -/
theorem sp_X2_hasSample {l : Launch} {g : GW} {ad : AD} {τ : RH} {r0 : Nat} {ln : Value} {nu us sc wa da qp sl sp dn ms lo ow : Int32} (hp : τ r0 = some (prO nu ln us sc wa da qp sl sp dn ms lo ow)) : Sp l g yX2_hasSample (.code yX2_hasSample cX2_hasSample 1 (some .boolean)) (rmv 1 0 0) [.ref (ad r0)] ad τ 0 0 (fun v ad' τ' => v = some (.int (if ¬ sl = -1 then 1 else 0)) ∧ ad' = ad ∧ τ' = τ) (NoX) := by
  refine Sp.of 0 [some (.ref (ad r0))] (by decide +kernel) (Nat.le_of_ble_eq_true rfl) rfl ?_
  intro p e s m args below meth c A cx hout hr hnm
  refine a_aload_n cx dX2_hasSample_0 rfl rfl ?_
  refine gf_X2_15 cx hp dX2_hasSample_1 ?_
  refine a_iconst cx (v := -1) dX2_hasSample_4 (by decide) ?_
  refine a_icmp_eq cx (tgt := 12) dX2_hasSample_5 (by decide) (fun c_5 => ?_) (fun c_5 => ?_)
  · refine a_iconst cx (v := 0) dX2_hasSample_12 (by decide) ?_
    exact a_zret cx hr dX2_hasSample_13 (by first | rfl | decide) (Nat.le_of_ble_eq_true rfl) (Nat.le_of_ble_eq_true rfl) ⟨vI (if_0 (fun h => h c_5)), rfl, rfl⟩
  · refine a_iconst cx (v := 1) dX2_hasSample_8 (by decide) ?_
    refine a_goto cx (tgt := 13) dX2_hasSample_9 (by decide) ?_
    exact a_zret cx hr dX2_hasSample_13 (by first | rfl | decide) (Nat.le_of_ble_eq_true rfl) (Nat.le_of_ble_eq_true rfl) ⟨vI (if_1 c_5), rfl, rfl⟩

theorem i10_0 {c : Prop} [Decidable c] (h : (if c then (1 : Int32) else 0) = 0) : ¬ c := fun hc => by rw [if_pos hc] at h; exact absurd h (by decide)
theorem i10_1 {c : Prop} [Decidable c] (h : ¬ (if c then (1 : Int32) else 0) = 0) : c := Decidable.byContradiction fun hc => h (by rw [if_neg hc])
set_option maxHeartbeats 4000000 in
set_option maxRecDepth 100000 in
/-- isCold() -/
theorem sp_X2_isCold {l : Launch} {g : GW} {ad : AD} {τ : RH} {r0 : Nat} {ln : Value} {nu us sc wa da qp sl sp dn ms lo ow : Int32} (hp : τ r0 = some (prO nu ln us sc wa da qp sl sp dn ms lo ow)) : Sp l g yX2_isCold (.code yX2_isCold cX2_isCold 1 (some .boolean)) (rmv 2 0 0) [.ref (ad r0)] ad τ 0 0 (fun v ad' τ' => v = some (.int (if ¬ sl = -1 ∧ sp = 99 then 1 else 0)) ∧ ad' = ad ∧ τ' = τ) (NoX) := by
  refine Sp.of 0 [some (.ref (ad r0))] (by decide +kernel) (Nat.le_of_ble_eq_true rfl) rfl ?_
  intro p e s m args below meth c A cx hout hr hnm
  refine a_aload_n cx dX2_isCold_0 rfl rfl ?_
  refine a_callV cx 0 (sp_X2_hasSample hp) hp rfl ml_X2_53 im_X2_hasSample se_X2_hasSample ini_X2 cd_X2_hasSample rfl rfl (by decide +kernel) rfl rfl ⟨(Nat.le_of_ble_eq_true rfl), (Nat.le_of_ble_eq_true rfl)⟩ (Nat.le_of_ble_eq_true rfl) dX2_isCold_1 ⟨(Nat.le_of_ble_eq_true rfl), (Nat.le_of_ble_eq_true rfl)⟩ (fun _ _ _ h => h.elim) (fun v9 ad9 τ9 hP => ?_)
  obtain ⟨rfl, h2, h3⟩ := hP
  replace h2 := h2.symm
  subst h2
  replace h3 := h3.symm
  subst h3
  refine a_if_eq cx (tgt := 20) dX2_isCold_4 (by decide) (fun c_4 => ?_) (fun c_4 => ?_)
  · refine a_iconst cx (v := 0) dX2_isCold_20 (by decide) ?_
    exact a_zret cx hr dX2_isCold_21 (by first | rfl | decide) (Nat.le_of_ble_eq_true rfl) (Nat.le_of_ble_eq_true rfl) ⟨vI (if_0 (fun h => i10_0 c_4 h.1)), rfl, rfl⟩
  · refine a_aload_n cx dX2_isCold_7 rfl rfl ?_
    refine gf_X2_18 cx hp dX2_isCold_8 ?_
    refine a_bipush cx (v := 99) dX2_isCold_11 (by decide) ?_
    refine a_icmp_ne cx (tgt := 20) dX2_isCold_13 (by decide) (fun c_13 => ?_) (fun c_13 => ?_)
    · refine a_iconst cx (v := 0) dX2_isCold_20 (by decide) ?_
      exact a_zret cx hr dX2_isCold_21 (by first | rfl | decide) (Nat.le_of_ble_eq_true rfl) (Nat.le_of_ble_eq_true rfl) ⟨vI (if_0 (fun h => c_13 h.2)), rfl, rfl⟩
    · refine a_iconst cx (v := 1) dX2_isCold_16 (by decide) ?_
      refine a_goto cx (tgt := 21) dX2_isCold_17 (by decide) ?_
      exact a_zret cx hr dX2_isCold_21 (by first | rfl | decide) (Nat.le_of_ble_eq_true rfl) (Nat.le_of_ble_eq_true rfl) ⟨vI (if_1 ⟨i10_1 c_4, c_13⟩), rfl, rfl⟩

set_option maxHeartbeats 4000000 in
set_option maxRecDepth 100000 in
/-- hasGoodSampleAtBeamline() -/
theorem sp_X2_hasGoodSampleAtBeamline {l : Launch} {g : GW} {ad : AD} {τ : RH} {r0 : Nat} {ln : Value} {nu us sc wa da qp sl sp dn ms lo ow : Int32} (hp : τ r0 = some (prO nu ln us sc wa da qp sl sp dn ms lo ow)) : Sp l g yX2_hasGoodSampleAtBeamline (.code yX2_hasGoodSampleAtBeamline cX2_hasGoodSampleAtBeamline 1 (some .boolean)) (rmv 1 0 0) [.ref (ad r0)] ad τ 0 0 (fun v ad' τ' => v = some (.int (if 0 < sl ∧ sp = 98 then 1 else 0)) ∧ ad' = ad ∧ τ' = τ) (NoX) := by
  refine Sp.of 0 [some (.ref (ad r0))] (by decide +kernel) (Nat.le_of_ble_eq_true rfl) rfl ?_
  intro p e s m args below meth c A cx hout hr hnm
  refine a_aload_n cx dX2_hasGoodSampleAtBeamline_0 rfl rfl ?_
  refine gf_X2_15 cx hp dX2_hasGoodSampleAtBeamline_1 ?_
  refine a_if_le cx (tgt := 20) dX2_hasGoodSampleAtBeamline_4 (by decide) (fun c_4 => ?_) (fun c_4 => ?_)
  · refine a_iconst cx (v := 0) dX2_hasGoodSampleAtBeamline_20 (by decide) ?_
    exact a_zret cx hr dX2_hasGoodSampleAtBeamline_21 (by first | rfl | decide) (Nat.le_of_ble_eq_true rfl) (Nat.le_of_ble_eq_true rfl) ⟨vI (if_0 (fun h => le_not_pos c_4 h.1)), rfl, rfl⟩
  · refine a_aload_n cx dX2_hasGoodSampleAtBeamline_7 rfl rfl ?_
    refine gf_X2_18 cx hp dX2_hasGoodSampleAtBeamline_8 ?_
    refine a_bipush cx (v := 98) dX2_hasGoodSampleAtBeamline_11 (by decide) ?_
    refine a_icmp_ne cx (tgt := 20) dX2_hasGoodSampleAtBeamline_13 (by decide) (fun c_13 => ?_) (fun c_13 => ?_)
    · refine a_iconst cx (v := 0) dX2_hasGoodSampleAtBeamline_20 (by decide) ?_
      exact a_zret cx hr dX2_hasGoodSampleAtBeamline_21 (by first | rfl | decide) (Nat.le_of_ble_eq_true rfl) (Nat.le_of_ble_eq_true rfl) ⟨vI (if_0 (fun h => c_13 h.2)), rfl, rfl⟩
    · refine a_iconst cx (v := 1) dX2_hasGoodSampleAtBeamline_16 (by decide) ?_
      refine a_goto cx (tgt := 21) dX2_hasGoodSampleAtBeamline_17 (by decide) ?_
      exact a_zret cx hr dX2_hasGoodSampleAtBeamline_21 (by first | rfl | decide) (Nat.le_of_ble_eq_true rfl) (Nat.le_of_ble_eq_true rfl) ⟨vI (if_1 ⟨not_le_pos c_4, c_13⟩), rfl, rfl⟩

set_option maxHeartbeats 4000000 in
set_option maxRecDepth 100000 in
/-- ageSample() -/
theorem sp_X2_ageSample {l : Launch} {g : GW} {ad : AD} {τ : RH} {r0 : Nat} {ln : Value} {nu us sc wa da qp sl sp dn ms lo ow : Int32} (hp : τ r0 = some (prO nu ln us sc wa da qp sl sp dn ms lo ow)) : Sp l g yX2_ageSample (.code yX2_ageSample cX2_ageSample 1 none) (rmv 1 0 0) [.ref (ad r0)] ad τ 0 0 (fun v ad' τ' => v = none ∧ ad' = ad ∧ τ' = va_up τ r0 (some (prO nu ln us sc wa da qp (if 0 < sl ∧ ¬ sp = 99 then sl - 1 else sl) sp dn ms lo ow))) (NoX) := by
  refine Sp.of 0 [some (.ref (ad r0))] (by decide +kernel) (Nat.le_of_ble_eq_true rfl) rfl ?_
  intro p e s m args below meth c A cx hout hr hnm
  refine a_aload_n cx dX2_ageSample_0 rfl rfl ?_
  refine gf_X2_15 cx hp dX2_ageSample_1 ?_
  refine a_if_le cx (tgt := 26) dX2_ageSample_4 (by decide) (fun c_4 => ?_) (fun c_4 => ?_)
  · exact a_vret cx hr dX2_ageSample_26 (Nat.le_of_ble_eq_true rfl) (Nat.le_of_ble_eq_true rfl) ⟨rfl, rfl, by rw [if_neg (fun h => le_not_pos c_4 h.1), up_some hp]⟩
  · refine a_aload_n cx dX2_ageSample_7 rfl rfl ?_
    refine gf_X2_18 cx hp dX2_ageSample_8 ?_
    refine a_bipush cx (v := 99) dX2_ageSample_11 (by decide) ?_
    refine a_icmp_eq cx (tgt := 26) dX2_ageSample_13 (by decide) (fun c_13 => ?_) (fun c_13 => ?_)
    · exact a_vret cx hr dX2_ageSample_26 (Nat.le_of_ble_eq_true rfl) (Nat.le_of_ble_eq_true rfl) ⟨rfl, rfl, by rw [if_neg (fun h => h.2 c_13), up_some hp]⟩
    · refine a_aload_n cx dX2_ageSample_16 rfl rfl ?_
      refine a_dup cx dX2_ageSample_17 rfl ?_
      refine gf_X2_15 cx hp dX2_ageSample_18 ?_
      refine a_iconst cx (v := 1) dX2_ageSample_21 (by decide) ?_
      refine a_isub cx dX2_ageSample_22 ?_
      refine pf_X2_15 cx hp dX2_ageSample_23 ?_
      exact a_vret cx hr dX2_ageSample_26 (Nat.le_of_ble_eq_true rfl) (Nat.le_of_ble_eq_true rfl) ⟨rfl, rfl, by rw [if_pos ⟨not_le_pos c_4, c_13⟩]⟩

set_option maxHeartbeats 4000000 in
set_option maxRecDepth 100000 in
/-- countShift(kind) -/
theorem sp_X2_countShift {l : Launch} {g : GW} {ad : AD} {τ : RH} {r0 : Nat} {ln : Value} {nu us sc wa da qp sl sp dn ms lo ow : Int32} {kd : Int32} (hp : τ r0 = some (prO nu ln us sc wa da qp sl sp dn ms lo ow)) : Sp l g yX2_countShift (.code yX2_countShift cX2_countShift 2 none) (rmv 1 0 0) [.ref (ad r0), .int kd] ad τ 0 0 (fun v ad' τ' => v = none ∧ ad' = ad ∧ τ' = va_up τ r0 (some (prO nu ln us sc wa da qp sl sp (if kd = 100 then dn + 1 else dn) (if kd = 109 then ms + 1 else ms) (if kd = 108 then lo + 1 else lo) ow))) (NoX) := by
  refine Sp.of 0 [some (.ref (ad r0)), some (.int kd)] (by decide +kernel) (Nat.le_of_ble_eq_true rfl) rfl ?_
  intro p e s m args below meth c A cx hout hr hnm
  refine a_iload_n cx dX2_countShift_0 rfl rfl ?_
  refine a_bipush cx (v := 100) dX2_countShift_1 (by decide) ?_
  refine a_icmp_ne cx (tgt := 19) dX2_countShift_3 (by decide) (fun c_3 => ?_) (fun c_3 => ?_)
  · refine a_iload_n cx dX2_countShift_19 rfl rfl ?_
    refine a_bipush cx (v := 109) dX2_countShift_20 (by decide) ?_
    refine a_icmp_ne cx (tgt := 38) dX2_countShift_22 (by decide) (fun c_22 => ?_) (fun c_22 => ?_)
    · refine a_iload_n cx dX2_countShift_38 rfl rfl ?_
      refine a_bipush cx (v := 108) dX2_countShift_39 (by decide) ?_
      refine a_icmp_ne cx (tgt := 54) dX2_countShift_41 (by decide) (fun c_41 => ?_) (fun c_41 => ?_)
      · exact a_vret cx hr dX2_countShift_54 (Nat.le_of_ble_eq_true rfl) (Nat.le_of_ble_eq_true rfl) ⟨rfl, rfl, by rw [if_neg c_3, if_neg c_22, if_neg c_41, up_some hp]⟩
      · refine a_aload_n cx dX2_countShift_44 rfl rfl ?_
        refine a_dup cx dX2_countShift_45 rfl ?_
        refine gf_X2_28 cx hp dX2_countShift_46 ?_
        refine a_iconst cx (v := 1) dX2_countShift_49 (by decide) ?_
        refine a_iadd cx dX2_countShift_50 ?_
        refine pf_X2_28 cx hp dX2_countShift_51 ?_
        exact a_vret cx hr dX2_countShift_54 (Nat.le_of_ble_eq_true rfl) (Nat.le_of_ble_eq_true rfl) ⟨rfl, rfl, by subst c_41; rfl⟩
    · refine a_aload_n cx dX2_countShift_25 rfl rfl ?_
      refine a_dup cx dX2_countShift_26 rfl ?_
      refine gf_X2_25 cx hp dX2_countShift_27 ?_
      refine a_iconst cx (v := 1) dX2_countShift_30 (by decide) ?_
      refine a_iadd cx dX2_countShift_31 ?_
      refine pf_X2_25 cx hp dX2_countShift_32 ?_
      refine a_goto cx (tgt := 54) dX2_countShift_35 (by decide) ?_
      exact a_vret cx hr dX2_countShift_54 (Nat.le_of_ble_eq_true rfl) (Nat.le_of_ble_eq_true rfl) ⟨rfl, rfl, by subst c_22; rfl⟩
  · refine a_aload_n cx dX2_countShift_6 rfl rfl ?_
    refine a_dup cx dX2_countShift_7 rfl ?_
    refine gf_X2_22 cx hp dX2_countShift_8 ?_
    refine a_iconst cx (v := 1) dX2_countShift_11 (by decide) ?_
    refine a_iadd cx dX2_countShift_12 ?_
    refine pf_X2_22 cx hp dX2_countShift_13 ?_
    refine a_goto cx (tgt := 54) dX2_countShift_16 (by decide) ?_
    exact a_vret cx hr dX2_countShift_54 (Nat.le_of_ble_eq_true rfl) (Nat.le_of_ble_eq_true rfl) ⟨rfl, rfl, by subst c_3; rfl⟩

set_option maxHeartbeats 4000000 in
set_option maxRecDepth 100000 in
/-- Proposal(..) -/
theorem sp_X2_init {l : Launch} {g : GW} {ad : AD} {τ : RH} {r0 : Nat} {nu us sc wa da : Int32} {q : Nat} {v0 v1 v2 v3 v4 v5 v6 v7 v8 v9 v10 v11 v12 : Value} (hp : τ r0 = some (.inr (5, [v0, v1, v2, v3, v4, v5, v6, v7, v8, v9, v10, v11, v12]))) : Sp l g yX2_init (.code yX2_init cX2_init 7 none) (rmv 1 0 0) [.ref (ad r0), .int nu, .ref q, .int us, .int sc, .int wa, .int da] ad τ 0 0 (fun v ad' τ' => v = none ∧ ad' = ad ∧ τ' = va_up τ r0 (some (prO nu (.ref q) us sc wa da (-1) (-1) 114 0 0 0 0))) (NoX) := by
  refine Sp.of 0 [some (.ref (ad r0)), some (.int nu), some (.ref q), some (.int us), some (.int sc), some (.int wa), some (.int da)] (by decide +kernel) (Nat.le_of_ble_eq_true rfl) rfl ?_
  intro p e s m args below meth c A cx hout hr hnm
  refine a_aload_n cx dX2_init_0 rfl rfl ?_
  refine a_objInit cx ml_X2_3 (Nat.le_of_ble_eq_true rfl) (Nat.le_of_ble_eq_true rfl) dX2_init_1 ?_
  refine a_aload_n cx dX2_init_4 rfl rfl ?_
  refine a_iconst cx (v := -1) dX2_init_5 (by decide) ?_
  refine pf_X2_9 cx hp dX2_init_6 ?_
  refine a_aload_n cx dX2_init_9 rfl rfl ?_
  refine a_iconst cx (v := -1) dX2_init_10 (by decide) ?_
  refine pf_X2_15 cx (va_up_self _ _ _) dX2_init_11 ?_
  refine a_aload_n cx dX2_init_14 rfl rfl ?_
  refine a_bipush cx (v := 114) dX2_init_15 (by decide) ?_
  refine pf_X2_18 cx (va_up_self _ _ _) (by first | exact ⟨by decide +kernel, by decide +kernel⟩ | assumption) dX2_init_17 ?_
  refine a_aload_n cx dX2_init_20 rfl rfl ?_
  refine a_iconst cx (v := 0) dX2_init_21 (by decide) ?_
  refine pf_X2_22 cx (va_up_self _ _ _) dX2_init_22 ?_
  refine a_aload_n cx dX2_init_25 rfl rfl ?_
  refine a_iconst cx (v := 0) dX2_init_26 (by decide) ?_
  refine pf_X2_25 cx (va_up_self _ _ _) dX2_init_27 ?_
  refine a_aload_n cx dX2_init_30 rfl rfl ?_
  refine a_iconst cx (v := 0) dX2_init_31 (by decide) ?_
  refine pf_X2_28 cx (va_up_self _ _ _) dX2_init_32 ?_
  refine a_aload_n cx dX2_init_35 rfl rfl ?_
  refine a_iconst cx (v := 0) dX2_init_36 (by decide) ?_
  refine pf_X2_31 cx (va_up_self _ _ _) dX2_init_37 ?_
  refine a_aload_n cx dX2_init_40 rfl rfl ?_
  refine a_iload_n cx dX2_init_41 rfl rfl ?_
  refine pf_X2_34 cx hnm (va_up_self _ _ _) dX2_init_42 ?_
  refine a_aload_n cx dX2_init_45 rfl rfl ?_
  refine a_aload_n cx dX2_init_46 rfl rfl ?_
  refine pf_X2_37 cx hnm (va_up_self _ _ _) dX2_init_47 ?_
  refine a_aload_n cx dX2_init_50 rfl rfl ?_
  refine a_iload_n cx dX2_init_51 rfl rfl ?_
  refine pf_X2_41 cx hnm (va_up_self _ _ _) dX2_init_52 ?_
  refine a_aload_n cx dX2_init_55 rfl rfl ?_
  refine a_iload cx dX2_init_56 rfl ?_
  refine pf_X2_44 cx hnm (va_up_self _ _ _) dX2_init_58 ?_
  refine a_aload_n cx dX2_init_61 rfl rfl ?_
  refine a_iload cx dX2_init_62 rfl ?_
  refine pf_X2_47 cx hnm (va_up_self _ _ _) dX2_init_64 ?_
  refine a_aload_n cx dX2_init_67 rfl rfl ?_
  refine a_iload cx dX2_init_68 rfl ?_
  refine pf_X2_50 cx hnm (va_up_self _ _ _) dX2_init_70 ?_
  exact a_vret cx hr dX2_init_73 (Nat.le_of_ble_eq_true rfl) (Nat.le_of_ble_eq_true rfl) ⟨rfl, rfl, by simp only [up_up]⟩

abbrev liO (mc : Int32) (ev : Value) (n : Nat) : va_E := .inr (2, [.int mc, ev, .int (nI n)])
set_option maxHeartbeats 4000000 in
set_option maxRecDepth 100000 in
theorem sp_Jx4a65c_size_8abf5 {l : Launch} {g : GW} {ad : AD} {τ : RH} {r0 n : Nat} {mc : Int32} {ev : Value} (hq : τ r0 = some (liO mc ev n)) : Sp l g yJx4a65c_size_8abf5 (.code yJx4a65c_size_8abf5 cJx4a65c_size_8abf5 1 (some .int)) (rmv 0 0 0) [.ref (ad r0)] ad τ 0 0 (fun v ad' τ' => v = some (.int (nI n)) ∧ ad' = ad ∧ τ' = τ) (NoX) := by
  refine Sp.of 0 [some (.ref (ad r0))] (by decide +kernel) (Nat.le_of_ble_eq_true rfl) rfl ?_
  intro p e s m args below meth c A cx hout hr hnm
  refine a_aload_n cx dJx4a65c_size_8abf5_0 rfl rfl ?_
  refine gf_Jx4a65c_48 cx hq dJx4a65c_size_8abf5_1 ?_
  exact a_iret cx hr dJx4a65c_size_8abf5_4 (Nat.le_of_ble_eq_true rfl) (Nat.le_of_ble_eq_true rfl) ⟨rfl, rfl, rfl⟩

set_option maxHeartbeats 4000000 in
set_option maxRecDepth 100000 in
theorem sp_J3_checkIndex_8e157 {l : Launch} {g : GW} {ad : AD} {τ : RH} {i n : Int32} (h0 : ¬ i < 0) (h1 : i < n) : Sp l g yJ3_checkIndex_8e157 (.code yJ3_checkIndex_8e157 cJ3_checkIndex_8e157 3 (some .int)) (rmv 0 0 0) [.int i, .int n, .null] ad τ 0 0 (fun v ad' τ' => v = some (.int (i)) ∧ ad' = ad ∧ τ' = τ) (NoX) := by
  refine Sp.of 0 [some (.int i), some (.int n), some (.null)] (by decide +kernel) (Nat.le_of_ble_eq_true rfl) rfl ?_
  intro p e s m args below meth c A cx hout hr hnm
  refine a_iload_n cx dJ3_checkIndex_8e157_0 rfl rfl ?_
  refine a_if_lt cx (tgt := 9) dJ3_checkIndex_8e157_1 (by decide) (fun c_1 => absurd c_1 h0) (fun c_1 => ?_)
  refine a_iload_n cx dJ3_checkIndex_8e157_4 rfl rfl ?_
  refine a_iload_n cx dJ3_checkIndex_8e157_5 rfl rfl ?_
  refine a_icmp_lt cx (tgt := 16) dJ3_checkIndex_8e157_6 (by decide) (fun c_6 => ?_) (fun c_6 => absurd h1 c_6)
  refine a_iload_n cx dJ3_checkIndex_8e157_16 rfl rfl ?_
  exact a_iret cx hr dJ3_checkIndex_8e157_17 (Nat.le_of_ble_eq_true rfl) (Nat.le_of_ble_eq_true rfl) ⟨rfl, rfl, rfl⟩

set_option maxHeartbeats 4000000 in
set_option maxRecDepth 100000 in
theorem sp_J15_checkIndex_7cf53 {l : Launch} {g : GW} {ad : AD} {τ : RH} {i n : Int32} (h0 : ¬ i < 0) (h1 : i < n) : Sp l g yJ15_checkIndex_7cf53 (.code yJ15_checkIndex_7cf53 cJ15_checkIndex_7cf53 2 (some .int)) (rmv 1 0 0) [.int i, .int n] ad τ 0 0 (fun v ad' τ' => v = some (.int (i)) ∧ ad' = ad ∧ τ' = τ) (NoX) := by
  refine Sp.of 0 [some (.int i), some (.int n)] (by decide +kernel) (Nat.le_of_ble_eq_true rfl) rfl ?_
  intro p e s m args below meth c A cx hout hr hnm
  refine a_iload_n cx dJ15_checkIndex_7cf53_0 rfl rfl ?_
  refine a_iload_n cx dJ15_checkIndex_7cf53_1 rfl rfl ?_
  refine a_null cx dJ15_checkIndex_7cf53_2 ?_
  refine a_callS cx 3 (sp_J3_checkIndex_8e157 h0 h1) ml_J15_105 st_J3_checkIndex_8e157 ini_J3 cd_J3_checkIndex_8e157 rfl rfl (by decide +kernel) rfl rfl ⟨(Nat.le_of_ble_eq_true rfl), (Nat.le_of_ble_eq_true rfl)⟩ (Nat.le_of_ble_eq_true rfl) dJ15_checkIndex_7cf53_3 ⟨(Nat.le_of_ble_eq_true rfl), (Nat.le_of_ble_eq_true rfl)⟩ (fun _ _ _ h => h.elim) (fun v9 ad9 τ9 hP => ?_)
  obtain ⟨rfl, h2, h3⟩ := hP
  replace h2 := h2.symm
  subst h2
  replace h3 := h3.symm
  subst h3
  exact a_iret cx hr dJ15_checkIndex_7cf53_6 (Nat.le_of_ble_eq_true rfl) (Nat.le_of_ble_eq_true rfl) ⟨rfl, rfl, rfl⟩

set_option maxHeartbeats 4000000 in
set_option maxRecDepth 100000 in
theorem sp_Jx4a65c_elementData_915e3 {l : Launch} {g : GW} {ad : AD} {τ : RH} {r0 n : Nat} {mc : Int32} {r2 N k : Nat} {f : Nat → Option Nat} (hq : τ r0 = some (liO mc (.ref (ad r2)) n)) (ha : τ r2 = some (arQ g N f)) (hk : k < N) (hN : N < 2 ^ 31) : Sp l g yJx4a65c_elementData_915e3 (.code yJx4a65c_elementData_915e3 cJx4a65c_elementData_915e3 2 (some (.object "java/lang/Object"))) (rmv 0 0 0) [.ref (ad r0), .int (nI k)] ad τ 0 0 (fun v ad' τ' => v = some (va_rf (f k)) ∧ ad' = ad ∧ τ' = τ) (NoX) := by
  refine Sp.of 0 [some (.ref (ad r0)), some (.int (nI k))] (by decide +kernel) (Nat.le_of_ble_eq_true rfl) rfl ?_
  intro p e s m args below meth c A cx hout hr hnm
  refine a_aload_n cx dJx4a65c_elementData_915e3_0 rfl rfl ?_
  refine gf_Jx4a65c_9 cx hq dJx4a65c_elementData_915e3_1 ?_
  refine a_iload_n cx dJx4a65c_elementData_915e3_4 rfl rfl ?_
  refine a_qld cx (k) ha (rfl) (hk) hN dJx4a65c_elementData_915e3_5 ?_
  exact a_aret cx hr dJx4a65c_elementData_915e3_6 (Or.inl ⟨_, rfl⟩) (va_rf_or _) (Nat.le_of_ble_eq_true rfl) (Nat.le_of_ble_eq_true rfl) ⟨rfl, rfl, rfl⟩

set_option maxHeartbeats 4000000 in
set_option maxRecDepth 100000 in
/-- get(i) -/
theorem sp_Jx4a65c_get_915e3 {l : Launch} {g : GW} {ad : AD} {τ : RH} {r0 n : Nat} {mc : Int32} {r2 N k : Nat} {f : Nat → Option Nat} (hq : τ r0 = some (liO mc (.ref (ad r2)) n)) (ha : τ r2 = some (arQ g N f)) (hk : k < n) (hn : n ≤ N) (hN : N < 2 ^ 31) : Sp l g yJx4a65c_get_915e3 (.code yJx4a65c_get_915e3 cJx4a65c_get_915e3 2 (some (.object "java/lang/Object"))) (rmv 2 0 0) [.ref (ad r0), .int (nI k)] ad τ 0 0 (fun v ad' τ' => v = some (va_rf (f k)) ∧ ad' = ad ∧ τ' = τ) (NoX) := by
  refine Sp.of 0 [some (.ref (ad r0)), some (.int (nI k))] (by decide +kernel) (Nat.le_of_ble_eq_true rfl) rfl ?_
  intro p e s m args below meth c A cx hout hr hnm
  refine a_iload_n cx dJx4a65c_get_915e3_0 rfl rfl ?_
  refine a_aload_n cx dJx4a65c_get_915e3_1 rfl rfl ?_
  refine gf_Jx4a65c_48 cx hq dJx4a65c_get_915e3_2 ?_
  refine a_callS cx 2 (sp_J15_checkIndex_7cf53 (i := nI k) (n := nI n) (nI_pos (by omega)) (nI_lt hk (by omega))) ml_Jx4a65c_118 st_J15_checkIndex_7cf53 ini_J15 cd_J15_checkIndex_7cf53 rfl rfl (by decide +kernel) rfl rfl ⟨(Nat.le_of_ble_eq_true rfl), (Nat.le_of_ble_eq_true rfl)⟩ (Nat.le_of_ble_eq_true rfl) dJx4a65c_get_915e3_5 ⟨(Nat.le_of_ble_eq_true rfl), (Nat.le_of_ble_eq_true rfl)⟩ (fun _ _ _ h => h.elim) (fun v9 ad9 τ9 hP => ?_)
  obtain ⟨rfl, h2, h3⟩ := hP
  replace h2 := h2.symm
  subst h2
  replace h3 := h3.symm
  subst h3
  refine a_pop cx dJx4a65c_get_915e3_8 rfl ?_
  refine a_aload_n cx dJx4a65c_get_915e3_9 rfl rfl ?_
  refine a_iload_n cx dJx4a65c_get_915e3_10 rfl rfl ?_
  refine a_callV cx 1 (sp_Jx4a65c_elementData_915e3 hq ha (Nat.lt_of_lt_of_le hk hn) hN) hq rfl ml_Jx4a65c_123 im_Jx4a65c_elementData_915e3 se_Jx4a65c_elementData_915e3 ini_Jx4a65c cd_Jx4a65c_elementData_915e3 rfl rfl (by decide +kernel) rfl rfl ⟨(Nat.le_of_ble_eq_true rfl), (Nat.le_of_ble_eq_true rfl)⟩ (Nat.le_of_ble_eq_true rfl) dJx4a65c_get_915e3_11 ⟨(Nat.le_of_ble_eq_true rfl), (Nat.le_of_ble_eq_true rfl)⟩ (fun _ _ _ h => h.elim) (fun v9 ad9 τ9 hP => ?_)
  obtain ⟨rfl, h2, h3⟩ := hP
  replace h2 := h2.symm
  subst h2
  replace h3 := h3.symm
  subst h3
  exact a_aret cx hr dJx4a65c_get_915e3_14 (Or.inl ⟨_, rfl⟩) (va_rf_or _) (Nat.le_of_ble_eq_true rfl) (Nat.le_of_ble_eq_true rfl) ⟨rfl, rfl, rfl⟩

set_option maxHeartbeats 4000000 in
set_option maxRecDepth 100000 in
/-- grow(1) of the empty list -/
theorem sp_Jx4a65c_grow_92f84 {l : Launch} {g : GW} {ad : AD} {τ : RH} {r0 r2 : Nat} {mc : Int32} (hq : τ r0 = some (liO mc (.ref g.2.2) 0)) (h2 : τ r2 = none) : Sp l g yJx4a65c_grow_92f84 (.code yJx4a65c_grow_92f84 cJx4a65c_grow_92f84 4 (some (.array (.object "java/lang/Object")))) (rmv 1 1 10) [.ref (ad r0), .int (nI 1)] ad τ 1 10 (fun v ad' τ' => (∀ x, x ≠ r2 → ad' x = ad x) ∧ v = some (.ref (ad' r2)) ∧ τ' = va_up (va_up τ r2 (some (arQ g 10 (fun _ => none)))) r0 (some (liO mc (.ref (ad' r2)) 0))) (NoX) := by
  refine Sp.of 2 [some (.ref (ad r0)), some (.int (nI 1)), none, none] (by decide +kernel) (Nat.le_of_ble_eq_true rfl) rfl ?_
  intro p e s m args below meth c A cx hout hr hnm
  have hne : r0 ≠ r2 := fun q => by rw [q, h2] at hq; cases hq
  refine a_aload_n cx dJx4a65c_grow_92f84_0 rfl rfl ?_
  refine gf_Jx4a65c_9 cx hq dJx4a65c_grow_92f84_1 ?_
  refine a_elen cx dJx4a65c_grow_92f84_4 ?_
  refine a_istore_n2 cx dJx4a65c_grow_92f84_5 rfl (by decide) (by intro w h; first | (cases h; rfl) | (cases h; assumption) | (cases h; done)) ?_
  refine a_iload_n cx dJx4a65c_grow_92f84_6 rfl rfl ?_
  refine a_if_gt cx (tgt := 20) dJx4a65c_grow_92f84_7 (by decide) (fun c_7 => absurd c_7 (by decide)) (fun c_7 => ?_)
  refine a_aload_n cx dJx4a65c_grow_92f84_10 rfl rfl ?_
  refine gf_Jx4a65c_9 cx hq dJx4a65c_grow_92f84_11 ?_
  refine a_gets cx fl_Jx4a65c_39 dJx4a65c_grow_92f84_14 ?_
  refine a_acmp_eq cx (tgt := 45) dJx4a65c_grow_92f84_17 (by decide) (fun c_17 => ?_) (fun c_17 => absurd rfl c_17)
  refine a_aload_n cx dJx4a65c_grow_92f84_45 rfl rfl ?_
  refine a_bipush cx (v := 10) dJx4a65c_grow_92f84_46 (by decide) ?_
  refine a_iload_n cx dJx4a65c_grow_92f84_48 rfl rfl ?_
  refine a_mmax cx ml_Jx4a65c_79 (Nat.le_of_ble_eq_true rfl) (Nat.le_of_ble_eq_true rfl) dJx4a65c_grow_92f84_49 ?_
  refine a_int (y := 10) (by decide) ?_
  refine a_newqG cx r2 h2 cl_Jx4a65c_7 (N := 10) (by decide) (by decide) (by decide) (Nat.le_of_ble_eq_true rfl) (Nat.le_of_ble_eq_true rfl) dJx4a65c_grow_92f84_52 (fun ad9 had => ?_)
  have hq2 : (va_up τ r2 (some (arQ g 10 (fun _ => none)))) r0 = some (liO mc (.ref g.2.2) 0) := by rw [va_up_ne _ _ hne]; exact hq
  rw [← had r0 hne]
  refine a_dup_x1 cx dJx4a65c_grow_92f84_55 rfl rfl ?_
  refine pf_Jx4a65c_9 cx hq2 dJx4a65c_grow_92f84_56 ?_
  exact a_aret cx hr dJx4a65c_grow_92f84_59 (Or.inr ⟨_, rfl⟩) (by first | exact Or.inr ⟨_, rfl⟩ | exact Or.inl rfl) (Nat.le_of_ble_eq_true rfl) (Nat.le_of_ble_eq_true rfl) ⟨had, rfl, rfl⟩

set_option maxHeartbeats 4000000 in
set_option maxRecDepth 100000 in
/-- grow() of the empty list -/
theorem sp_Jx4a65c_grow_d5877 {l : Launch} {g : GW} {ad : AD} {τ : RH} {r0 r2 : Nat} {mc : Int32} (hq : τ r0 = some (liO mc (.ref g.2.2) 0)) (h2 : τ r2 = none) : Sp l g yJx4a65c_grow_d5877 (.code yJx4a65c_grow_d5877 cJx4a65c_grow_d5877 1 (some (.array (.object "java/lang/Object")))) (rmv 2 1 10) [.ref (ad r0)] ad τ 1 10 (fun v ad' τ' => (∀ x, x ≠ r2 → ad' x = ad x) ∧ v = some (.ref (ad' r2)) ∧ τ' = va_up (va_up τ r2 (some (arQ g 10 (fun _ => none)))) r0 (some (liO mc (.ref (ad' r2)) 0))) (NoX) := by
  refine Sp.of 0 [some (.ref (ad r0))] (by decide +kernel) (Nat.le_of_ble_eq_true rfl) rfl ?_
  intro p e s m args below meth c A cx hout hr hnm
  refine a_aload_n cx dJx4a65c_grow_d5877_0 rfl rfl ?_
  refine a_aload_n cx dJx4a65c_grow_d5877_1 rfl rfl ?_
  refine gf_Jx4a65c_48 cx hq dJx4a65c_grow_d5877_2 ?_
  refine a_iconst cx (v := 1) dJx4a65c_grow_d5877_5 (by decide) ?_
  refine a_iadd cx dJx4a65c_grow_d5877_6 ?_
  refine a_callV cx 1 (sp_Jx4a65c_grow_92f84 hq h2) hq rfl ml_Jx4a65c_69 im_Jx4a65c_grow_92f84 se_Jx4a65c_grow_92f84 ini_Jx4a65c cd_Jx4a65c_grow_92f84 rfl rfl (by decide +kernel) rfl rfl ⟨(Nat.le_of_ble_eq_true rfl), (Nat.le_of_ble_eq_true rfl)⟩ (Nat.le_of_ble_eq_true rfl) dJx4a65c_grow_d5877_7 ⟨(Nat.le_of_ble_eq_true rfl), (Nat.le_of_ble_eq_true rfl)⟩ (fun _ _ _ h => h.elim) (fun v9 ad9 τ9 hP => ?_)
  obtain ⟨had, rfl, h3⟩ := hP
  replace h3 := h3.symm
  subst h3
  exact a_aret cx hr dJx4a65c_grow_d5877_10 (Or.inr ⟨_, rfl⟩) (by first | exact Or.inr ⟨_, rfl⟩ | exact Or.inl rfl) (Nat.le_of_ble_eq_true rfl) (Nat.le_of_ble_eq_true rfl) ⟨had, rfl, rfl⟩

set_option maxHeartbeats 4000000 in
set_option maxRecDepth 100000 in
/-- add(e, empty, 0) -/
theorem sp_Jx4a65c_add_72be8 {l : Launch} {g : GW} {ad : AD} {τ : RH} {r0 r2 v0 n ci NN : Nat} {mc : Int32} {f : Nat → Option Nat} {vs : List Value} {C : String} {T : u_T} (hq : τ r0 = some (liO mc (.ref g.2.2) 0)) (h2 : τ r2 = none) (hv : τ v0 = some (.inr (ci, vs))) (hca : Cond.castable C "java/lang/Object" ∈ BW) (hw : vwCl[ci]? = some (C, T, NN)) (hnr : v0 ≠ r0) : Sp l g yJx4a65c_add_72be8 (.code yJx4a65c_add_72be8 cJx4a65c_add_72be8 4 none) (rmv 3 1 10) [.ref (ad r0), .ref (ad v0), .ref g.2.2, .int (nI 0)] ad τ 1 10 (fun v ad' τ' => (∀ x, x ≠ r2 → ad' x = ad x) ∧ v = none ∧ τ' = va_up (va_up τ r2 (some (arQ g 10 (va_up (fun _ => none) 0 (some (ad' v0)))))) r0 (some (liO mc (.ref (ad' r2)) 1))) (NoX) := by
  refine Sp.of 0 [some (.ref (ad r0)), some (.ref (ad v0)), some (.ref g.2.2), some (.int (nI 0))] (by decide +kernel) (Nat.le_of_ble_eq_true rfl) rfl ?_
  intro p e s m args below meth c A cx hout hr hnm
  have hne : r0 ≠ r2 := fun q => by rw [q, h2] at hq; cases hq
  have hnv : v0 ≠ r2 := fun q => by rw [q, h2] at hv; cases hv
  refine a_iload_n cx dJx4a65c_add_72be8_0 rfl rfl ?_
  refine a_aload_n cx dJx4a65c_add_72be8_1 rfl rfl ?_
  refine a_elen cx dJx4a65c_add_72be8_2 ?_
  refine a_icmp_ne cx (tgt := 11) dJx4a65c_add_72be8_3 (by decide) (fun c_3 => absurd rfl c_3) (fun c_3 => ?_)
  refine a_aload_n cx dJx4a65c_add_72be8_6 rfl rfl ?_
  refine a_callV cx 0 (sp_Jx4a65c_grow_d5877 hq h2) hq rfl ml_Jx4a65c_129 im_Jx4a65c_grow_d5877 se_Jx4a65c_grow_d5877 ini_Jx4a65c cd_Jx4a65c_grow_d5877 rfl rfl (by decide +kernel) rfl rfl ⟨(Nat.le_of_ble_eq_true rfl), (Nat.le_of_ble_eq_true rfl)⟩ (Nat.le_of_ble_eq_true rfl) dJx4a65c_add_72be8_7 ⟨(Nat.le_of_ble_eq_true rfl), (Nat.le_of_ble_eq_true rfl)⟩ (fun _ _ _ h => h.elim) (fun v9 ad9 τ9 hP => ?_)
  obtain ⟨had, rfl, h3⟩ := hP
  replace h3 := h3.symm
  subst h3
  rw [← had r0 hne, ← had v0 hnv]
  have hA2 : (va_up (va_up τ r2 (some (arQ g 10 (fun _ => none)))) r0 (some (liO mc (.ref (ad9 r2)) 0))) r2 = some (arQ g 10 (fun _ => none)) := by rw [va_up_ne _ _ hne.symm, va_up_self]
  have hv2 : (va_up (va_up τ r2 (some (arQ g 10 (fun _ => none)))) r0 (some (liO mc (.ref (ad9 r2)) 0))) v0 = some (.inr (ci, vs)) := by rw [va_up_ne _ _ hnr, va_up_ne _ _ hnv]; exact hv
  refine a_astore_n2 cx dJx4a65c_add_72be8_10 rfl (by decide) (by intro w h; first | (cases h; rfl) | (cases h; assumption) | (cases h; done)) ?_
  refine a_aload_n cx dJx4a65c_add_72be8_11 rfl rfl ?_
  refine a_iload_n cx dJx4a65c_add_72be8_12 rfl rfl ?_
  refine a_aload_n cx dJx4a65c_add_72be8_13 rfl rfl ?_
  refine a_qst cx (r := r2) (v := v0) 0 hA2 hv2 hw (Or.inr (a_sub cx hca hw)) rfl (by decide) (by decide) dJx4a65c_add_72be8_14 ?_
  refine a_aload_n cx dJx4a65c_add_72be8_15 rfl rfl ?_
  refine a_iload_n cx dJx4a65c_add_72be8_16 rfl rfl ?_
  refine a_iconst cx (v := 1) dJx4a65c_add_72be8_17 (by decide) ?_
  refine a_iadd cx dJx4a65c_add_72be8_18 ?_
  refine pf_Jx4a65c_48 cx (by rw [va_up_ne _ _ hne]; exact va_up_self _ _ _) dJx4a65c_add_72be8_19 ?_
  exact a_vret cx hr dJx4a65c_add_72be8_22 (Nat.le_of_ble_eq_true rfl) (Nat.le_of_ble_eq_true rfl) ⟨had, rfl, by rw [up_com _ _ _ hne, up_up, up_up]; rfl⟩

set_option maxHeartbeats 4000000 in
set_option maxRecDepth 100000 in
/-- add(e, row, n) -/
theorem sp_add_more {l : Launch} {g : GW} {ad : AD} {τ : RH} {r0 r2 v0 n ci NN : Nat} {mc : Int32} {f : Nat → Option Nat} {vs : List Value} {C : String} {T : u_T} (hq : τ r0 = some (liO mc (.ref (ad r2)) n)) (ha : τ r2 = some (arQ g 10 f)) (h0 : 0 < n) (h10 : n < 10) (hv : τ v0 = some (.inr (ci, vs))) (hca : Cond.castable C "java/lang/Object" ∈ BW) (hw : vwCl[ci]? = some (C, T, NN)) (hnr : v0 ≠ r0) : Sp l g yJx4a65c_add_72be8 (.code yJx4a65c_add_72be8 cJx4a65c_add_72be8 4 none) (rmv 3 0 0) [.ref (ad r0), .ref (ad v0), .ref (ad r2), .int (nI n)] ad τ 0 0 (fun v ad' τ' => v = none ∧ ad' = ad ∧ τ' = va_up (va_up τ r2 (some (arQ g 10 (va_up f n (some (ad v0)))))) r0 (some (liO mc (.ref (ad r2)) (n + 1)))) (NoX) := by
  refine Sp.of 0 [some (.ref (ad r0)), some (.ref (ad v0)), some (.ref (ad r2)), some (.int (nI n))] (by decide +kernel) (Nat.le_of_ble_eq_true rfl) rfl ?_
  intro p e s m args below meth c A cx hout hr hnm
  refine a_iload_n cx dJx4a65c_add_72be8_0 rfl rfl ?_
  refine a_aload_n cx dJx4a65c_add_72be8_1 rfl rfl ?_
  refine a_alen cx 3 ha rfl rfl dJx4a65c_add_72be8_2 ?_
  refine a_icmp_ne cx (tgt := 11) dJx4a65c_add_72be8_3 (by decide) (fun c_3 => ?_) (fun c_3 => absurd ((nI_eq (by omega) (by decide)).mp c_3) (by omega))
  refine a_aload_n cx dJx4a65c_add_72be8_11 rfl rfl ?_
  refine a_iload_n cx dJx4a65c_add_72be8_12 rfl rfl ?_
  refine a_aload_n cx dJx4a65c_add_72be8_13 rfl rfl ?_
  refine a_qst cx (r := r2) (v := v0) n ha hv hw (Or.inr (a_sub cx hca hw)) rfl h10 (by decide) dJx4a65c_add_72be8_14 ?_
  refine a_aload_n cx dJx4a65c_add_72be8_15 rfl rfl ?_
  refine a_iload_n cx dJx4a65c_add_72be8_16 rfl rfl ?_
  refine a_iconst cx (v := 1) dJx4a65c_add_72be8_17 (by decide) ?_
  refine a_iadd cx dJx4a65c_add_72be8_18 ?_
  refine pf_Jx4a65c_48 cx (by rw [va_up_ne _ _ (r_ne hq ha (by simp))]; exact hq) dJx4a65c_add_72be8_19 ?_
  exact a_vret cx hr dJx4a65c_add_72be8_22 (Nat.le_of_ble_eq_true rfl) (Nat.le_of_ble_eq_true rfl) ⟨rfl, rfl, by rw [nI_1]⟩
end
section
/-! THE MEMORY: C r k is the k-th number of the thing at role r; 'ob' says what thing lies at a role.
  0 the office (4 time); 1, 3 its lists of beamlines, proposals (0 modCount, 1 whether it has a row, 2 size); 2, 4 their rows; 5, 6 trained, there;
  10+10b a beamline (0 shifts, 1 room, 6 passed, 7 rate, 8 used, 9 met, 10 fault), +1 its queue (a list), +2 its row, +3 kept (1 places, 2 reserve), +4 kept.left, +5 anew, +6 anew.left, +7 kinds;
  40+j a proposal (0 number, 1 line, 2 user, 3 score, 4 wanted, 5 data, 6 queuePlace, 7 sampleLife, 8 samplePlace, 9 done, 10 missed, 11 lost, 12 owed);
  60 the model (0 thrown, 1 lines, 2 proposals, 3 time, 4 trained), 61 run, 62 room, 63 rate, 64 used, 65 reserve, 66 queued, 67 queue, 68 hasMet, 69 isFault, 70 line, 71 user, 72 score, 73 wanted, 74 data, 75 left, 76 done, 77 missed, 78 lost, 79 owed, 80 life, 81 place, 82 isTrained, 83 isThere -/
abbrev ME : Type := Nat → Nat → Int32
def up2 (C : ME) (r k : Nat) (x : Int32) : ME := va_up C r (va_up (C r) k x)
abbrev offO (ad : AD) (w : Nat → Int32) : va_E := .inr (6, [.ref (ad 1), .ref (ad 3), .ref (ad 5), .ref (ad 6), .int (w 4)])
abbrev lisO (g : GW) (ad : AD) (r : Nat) (w : Nat → Int32) : va_E := .inr (2, [.int (w 0), (if w 1 = 0 then .ref g.2.2 else .ref (ad (r + 1))), .int (w 2)])
abbrev rowO (g : GW) (ad : AD) (f : Nat → Nat) (w : Nat → Int32) : va_E := arQ g 10 (fun k => if w k < 0 then none else some (ad (f (tn (w k)))))
abbrev beO (ad : AD) (r : Nat) (w : Nat → Int32) : va_E := .inr (3, [.int (w 0), .int (w 1), .ref (ad (r + 1)), .ref (ad (r + 3)), .ref (ad (r + 5)), .ref (ad (r + 7)), .int (w 6), .int (w 7), .int (w 8), .int (w 9), .int (w 10)])
abbrev caO (ad : AD) (r : Nat) (w : Nat → Int32) : va_E := .inr (4, [.ref (ad (r + 1)), .int (w 1), .int (w 2)])
abbrev ppO (ad : AD) (w : Nat → Int32) : va_E := .inr (5, [.int (w 0), .ref (ad (10 + 10 * tn (w 1))), .int (w 2), .int (w 3), .int (w 4), .int (w 5), .int (w 6), .int (w 7), .int (w 8), .int (w 9), .int (w 10), .int (w 11), .int (w 12)])
abbrev moO (ad : AD) (w : Nat → Int32) : va_E := .inr (7, [.int (w 0), .int (w 1), .int (w 2), .int (w 3), .int (w 4), .ref (ad 61), .ref (ad 62), .ref (ad 63), .ref (ad 64), .ref (ad 65), .ref (ad 66), .ref (ad 67), .ref (ad 68), .ref (ad 69), .ref (ad 70), .ref (ad 71), .ref (ad 72), .ref (ad 73), .ref (ad 74), .ref (ad 75), .ref (ad 76), .ref (ad 77), .ref (ad 78), .ref (ad 79), .ref (ad 80), .ref (ad 81), .ref (ad 82), .ref (ad 83)])
def ob (g : GW) (ad : AD) (r : Nat) (w : Nat → Int32) : va_E :=
  if r = 0 then offO ad w
  else if r = 1 ∨ r = 3 ∨ r = 11 ∨ r = 21 then lisO g ad r w
  else if r = 2 then rowO g ad (fun i => 10 + 10 * i) w
  else if r = 4 ∨ r = 12 ∨ r = 22 then rowO g ad (fun i => 40 + i) w
  else if r = 5 ∨ r = 6 then arZ g 10 w
  else if r = 10 ∨ r = 20 then beO ad r w
  else if r = 13 ∨ r = 15 ∨ r = 23 ∨ r = 25 then caO ad r w
  else if r = 14 ∨ r = 16 ∨ r = 24 ∨ r = 26 then arI g 8 w
  else if r = 17 ∨ r = 27 then arC g 200 w
  else if r < 60 then ppO ad w
  else if r = 60 then moO ad w
  else if r < 67 then arI g 2 w
  else if r = 67 then arI g 16 w
  else if r < 70 then arZ g 2 w
  else if r < 81 then arI g 8 w
  else if r = 81 then arC g 8 w
  else arZ g 10 w
/-- the heap: at each role below 84 that is live lies its thing, and elsewhere rho -/
def HH (g : GW) (ad : AD) (Lv : Nat → Bool) (C : ME) (ρ : RH) (τ : RH) : Prop := (∀ r, r < 84 → τ r = if Lv r = true then some (ob g ad r (C r)) else none) ∧ ∀ r, 84 ≤ r → τ r = ρ r
theorem HH.at {g : GW} {ad : AD} {Lv : Nat → Bool} {C : ME} {ρ τ : RH} (h : HH g ad Lv C ρ τ) {r : Nat} (hr : r < 84) (hl : Lv r = true) : τ r = some (ob g ad r (C r)) := by rw [h.1 r hr, if_pos hl]
theorem HH.no {g : GW} {ad : AD} {Lv : Nat → Bool} {C : ME} {ρ τ : RH} (h : HH g ad Lv C ρ τ) {r : Nat} (hr : r < 84) (hl : Lv r = false) : τ r = none := by rw [h.1 r hr, if_neg (by rw [hl]; decide)]
theorem HH.set {g : GW} {ad : AD} {Lv : Nat → Bool} {C : ME} {ρ τ : RH} (h : HH g ad Lv C ρ τ) {r : Nat} {w : Nat → Int32} {e : va_E} (hr : r < 84) (hl : Lv r = true) (he : e = ob g ad r w) : HH g ad Lv (va_up C r w) ρ (va_up τ r (some e)) := by
  refine ⟨fun r' h' => ?_, fun r' h' => ?_⟩
  · by_cases hx : r' = r
    · subst hx; rw [va_up_self, va_up_self, if_pos hl, he]
    · rw [va_up_ne _ _ hx, va_up_ne _ _ hx]; exact h.1 r' h'
  · rw [va_up_ne _ _ (by omega)]; exact h.2 r' h'
theorem HH.put {g : GW} {ad : AD} {Lv : Nat → Bool} {C : ME} {ρ τ : RH} (h : HH g ad Lv C ρ τ) {r : Nat} (k : Nat) (x : Int32) {e : va_E} (hr : r < 84) (hl : Lv r = true) (he : e = ob g ad r (va_up (C r) k x)) : HH g ad Lv (up2 C r k x) ρ (va_up τ r (some e)) := h.set hr hl he
theorem HH.push {g : GW} {ad ad' : AD} {Lv : Nat → Bool} {C : ME} {ρ τ : RH} (h : HH g ad Lv C ρ τ) {r : Nat} {w : Nat → Int32} {e : va_E} (hr : r < 84) (hob : ∀ x, x < 84 → Lv x = true → x ≠ r → ob g ad' x (C x) = ob g ad x (C x)) (he : e = ob g ad' r w) : HH g ad' (va_up Lv r true) (va_up C r w) ρ (va_up τ r (some e)) := by
  refine ⟨fun r' h' => ?_, fun r' h' => ?_⟩
  · by_cases hx : r' = r
    · subst hx; rw [va_up_self, va_up_self, va_up_self, if_pos rfl, he]
    · rw [va_up_ne _ _ hx, va_up_ne _ _ hx, va_up_ne _ _ hx, h.1 r' h']
      by_cases hl : Lv r' = true
      · rw [if_pos hl, if_pos hl, hob r' h' hl hx]
      · rw [if_neg hl, if_neg hl]
  · rw [va_up_ne _ _ (by omega)]; exact h.2 r' h'
theorem ob_beam {g : GW} {ad : AD} {b : Nat} {w : Nat → Int32} (hb : b < 2) : ob g ad (10 + 10 * b) w = beO ad (10 + 10 * b) w := by
  rcases (show b = 0 ∨ b = 1 by omega) with rfl | rfl <;> rfl
theorem ob_queue {g : GW} {ad : AD} {b : Nat} {w : Nat → Int32} (hb : b < 2) : ob g ad (11 + 10 * b) w = lisO g ad (11 + 10 * b) w := by
  rcases (show b = 0 ∨ b = 1 by omega) with rfl | rfl <;> rfl
theorem ob_qrow {g : GW} {ad : AD} {b : Nat} {w : Nat → Int32} (hb : b < 2) : ob g ad (12 + 10 * b) w = rowO g ad (fun i => 40 + i) w := by
  rcases (show b = 0 ∨ b = 1 by omega) with rfl | rfl <;> rfl
theorem ob_kept {g : GW} {ad : AD} {b : Nat} {w : Nat → Int32} (hb : b < 2) : ob g ad (13 + 10 * b) w = caO ad (13 + 10 * b) w := by
  rcases (show b = 0 ∨ b = 1 by omega) with rfl | rfl <;> rfl
theorem ob_keptL {g : GW} {ad : AD} {b : Nat} {w : Nat → Int32} (hb : b < 2) : ob g ad (14 + 10 * b) w = arI g 8 w := by
  rcases (show b = 0 ∨ b = 1 by omega) with rfl | rfl <;> rfl
theorem ob_anew {g : GW} {ad : AD} {b : Nat} {w : Nat → Int32} (hb : b < 2) : ob g ad (15 + 10 * b) w = caO ad (15 + 10 * b) w := by
  rcases (show b = 0 ∨ b = 1 by omega) with rfl | rfl <;> rfl
theorem ob_anewL {g : GW} {ad : AD} {b : Nat} {w : Nat → Int32} (hb : b < 2) : ob g ad (16 + 10 * b) w = arI g 8 w := by
  rcases (show b = 0 ∨ b = 1 by omega) with rfl | rfl <;> rfl
theorem ob_kinds {g : GW} {ad : AD} {b : Nat} {w : Nat → Int32} (hb : b < 2) : ob g ad (17 + 10 * b) w = arC g 200 w := by
  rcases (show b = 0 ∨ b = 1 by omega) with rfl | rfl <;> rfl
theorem ob_prop {g : GW} {ad : AD} {j : Nat} {w : Nat → Int32} (hj : j < 8) : ob g ad (40 + j) w = ppO ad w := by
  rcases (show j = 0 ∨ j = 1 ∨ j = 2 ∨ j = 3 ∨ j = 4 ∨ j = 5 ∨ j = 6 ∨ j = 7 by omega) with rfl | rfl | rfl | rfl | rfl | rfl | rfl | rfl <;> rfl
/-! what the class keeps of its numbers -/
def cNb (C : ME) : Nat := tn (C 1 2)
def cNp (C : ME) : Nat := tn (C 3 2)
def cNq (C : ME) (b : Nat) : Nat := tn (C (11 + 10 * b) 2)
/-- a list's numbers: its size n, its flag, its row's life -/
def cLis (Lv : Nat → Bool) (C : ME) (r n : Nat) : Prop := C r 2 = nI n ∧ C r 1 = (if n = 0 then 0 else 1) ∧ Lv r = true ∧ Lv (r + 1) = decide (0 < n) ∧ ∀ k, n ≤ k → 0 < n → C (r + 1) k = -1
def cLin (Lv : Nat → Bool) (C : ME) (b : Nat) : Prop :=
  Lv (10 + 10 * b) = true ∧ Lv (13 + 10 * b) = true ∧ Lv (14 + 10 * b) = true ∧ Lv (15 + 10 * b) = true ∧ Lv (16 + 10 * b) = true ∧ Lv (17 + 10 * b) = true ∧
  cNq C b ≤ 8 ∧ cLis Lv C (11 + 10 * b) (cNq C b) ∧ C (13 + 10 * b) 1 = nI (cNq C b) ∧ (∃ na, na ≤ 8 ∧ C (15 + 10 * b) 1 = nI na) ∧ (∃ ps, ps ≤ 200 ∧ C (10 + 10 * b) 6 = nI ps) ∧ ∀ k, k < cNq C b → ∃ q, q < cNp C ∧ C (12 + 10 * b) k = nI q
def cI (Lv : Nat → Bool) (C : ME) : Prop :=
  cNb C ≤ 2 ∧ cNp C ≤ 8 ∧ Lv 0 = true ∧ Lv 5 = true ∧ Lv 6 = true ∧ cLis Lv C 1 (cNb C) ∧ cLis Lv C 3 (cNp C) ∧ (∀ i, i < cNb C → C 2 i = nI i) ∧ (∀ j, j < cNp C → C 4 j = nI j) ∧
  (∀ b, b < cNb C → cLin Lv C b) ∧ (∀ b k, cNb C ≤ b → b < 2 → k < 8 → Lv (10 + 10 * b + k) = false) ∧ (∀ j, j < cNp C → Lv (40 + j) = true ∧ C (40 + j) 0 = nI j ∧ ∃ ln, ln < cNb C ∧ C (40 + j) 1 = nI ln) ∧ ∀ j, cNp C ≤ j → j < 8 → Lv (40 + j) = false
end
section
section CASTS
variable {l : Launch} {g : GW} {p : Program} {e : Env} {R : Room} {s : State} {m : MethodId} {args : Array Value} {below : List Frame} {meth : Method} {c : Code} {A : Nat → Prop} {cc : ByteArray} {nL : Nat} {own : String} {Q : State → Prop} {ad : AD} {τ : RH} {cells slots pc : Nat} {lv : LV} {st : List Value}
theorem a_castS (cx : Cx l g p s m args meth c A cc nL own) {r ci index N : Nat} {fs : List Value} {C : String} {T : u_T} (hτ : τ r = some (.inr (ci, fs))) (hc : vwCl[ci]? = some (C, T, N)) (hlink : Cond.classLink own index C ∈ TW) (d : decode cc pc = .ok (.checkcast index, 3)) (kk : AW l g p e R s m args below meth c A nL Q ad τ cells slots (pc + 3) lv (.ref (ad r) :: st)) : AW l g p e R s m args below meth c A nL Q ad τ cells slots pc lv (.ref (ad r) :: st) := fun H locs ls i1 i2 i3 i4 =>
  va_castS cx.1 cx.2.1 cx.2.2.2.1 (cx.2.2.2.2.1 _ hlink) ((cx_K cx).1 ci _ hc).2 (va_recv (cx_K cx) (aW1 (i1.1 r _ hτ)) (q0 := 0) hc rfl) d (kk H locs ls i1 i2 i3 i4)
end CASTS
theorem Sp.mono {l : Launch} {g : GW} {y : MethodName} {cw : Cond} {rm : Room} {As : List Value} {ad : AD} {τ : RH} {mc ms : Nat} {P P' : Option Value → AD → RH → Prop} {X X' : String → AD → RH → Prop} (h : Sp l g y cw rm As ad τ mc ms P X) (hP : ∀ v a t, P v a t → P' v a t) (hX : ∀ E a t, X E a t → X' E a t) : Sp l g y cw rm As ad τ mc ms P' X' := by
  intro hl sz p e ha hc hk s m args below hf happ hPc hW
  obtain ⟨k, o, h1, h2, h3, h4⟩ := h hl sz p e ha hc hk s m args below hf happ hPc hW
  refine ⟨k, o, h1, h2, h3, ?_⟩
  rcases h4 with ⟨⟨⟨v, ad', τ', a1, a2, a3⟩, a4⟩, a5⟩ | ⟨q, b1, E, ce, L, ⟨⟨ad', τ', b2, b3⟩, b4⟩, b5⟩
  · exact Or.inl ⟨⟨⟨v, ad', τ', a1, hP _ _ _ a2, a3⟩, a4⟩, a5⟩
  · exact Or.inr ⟨q, b1, E, ce, L, ⟨⟨ad', τ', hX _ _ _ b2, b3⟩, b4⟩, b5⟩
theorem H_lis {g : GW} {ad : AD} {Lv : Nat → Bool} {C : ME} {ρ τ : RH} {r n : Nat} (hH : HH g ad Lv C ρ τ) (hr : r < 84) (ho : ob g ad r (C r) = lisO g ad r (C r)) (hc : cLis Lv C r n) : τ r = some (liO (C r 0) (if n = 0 then .ref g.2.2 else .ref (ad (r + 1))) n) := by
  rw [hH.at hr hc.2.2.1, ho]
  unfold lisO liO
  rw [hc.1, hc.2.1]
  by_cases h : n = 0
  · rw [if_pos h, if_pos h, if_pos rfl]
  · rw [if_neg h, if_neg h, if_neg (by decide)]
theorem H_lis1 {g : GW} {ad : AD} {Lv : Nat → Bool} {C : ME} {ρ τ : RH} {r n : Nat} (hH : HH g ad Lv C ρ τ) (hr : r < 84) (ho : ob g ad r (C r) = lisO g ad r (C r)) (hc : cLis Lv C r n) (h0 : 0 < n) : τ r = some (liO (C r 0) (.ref (ad (r + 1))) n) := by
  have h := H_lis hH hr ho hc
  rw [if_neg (by omega)] at h
  exact h
theorem H_row {g : GW} {ad : AD} {Lv : Nat → Bool} {C : ME} {ρ τ : RH} {r n : Nat} (hH : HH g ad Lv C ρ τ) (hr : r + 1 < 84) (hc : cLis Lv C r n) (h0 : 0 < n) : τ (r + 1) = some (ob g ad (r + 1) (C (r + 1))) := hH.at hr (by rw [hc.2.2.2.1]; exact decide_eq_true h0)
theorem row_ref {ad : AD} {w : Nat → Int32} {f : Nat → Nat} {k q : Nat} (h : w k = nI q) (hq : q < 2 ^ 31) : va_rf (if w k < 0 then none else some (ad (f (tn (w k))))) = .ref (ad (f q)) := by
  rw [if_neg (by rw [h]; exact nI_pos hq), h, tn_nI hq]; rfl
/-- get of the lists -/
theorem sp_get_line {l : Launch} {g : GW} {ad : AD} {τ : RH} {Lv : Nat → Bool} {C : ME} {ρ : RH} (hH : HH g ad Lv C ρ τ) (hI : cI Lv C) {k : Nat} (hk : k < cNb C) : Sp l g yJx4a65c_get_915e3 (.code yJx4a65c_get_915e3 cJx4a65c_get_915e3 2 (some (.object "java/lang/Object"))) (rmv 2 0 0) [.ref (ad 1), .int (nI k)] ad τ 0 0 (fun v ad' τ' => v = some (.ref (ad (10 + 10 * k))) ∧ ad' = ad ∧ τ' = τ) NoX := by
  obtain ⟨h1, h2, -, -, -, h3, -, h4, -⟩ := hI
  have e := row_ref (ad := ad) (w := C 2) (f := fun i => 10 + 10 * i) (h4 k hk) (by omega)
  have h := sp_Jx4a65c_get_915e3 (l := l) (N := 10) (H_lis1 hH (by decide) rfl h3 (by omega)) (H_row hH (by decide) h3 (by omega)) hk (by omega) (by decide)
  exact h.mono (fun v a t q => ⟨by rw [q.1, e], q.2⟩) (fun _ _ _ q => q)
theorem sp_get_prop {l : Launch} {g : GW} {ad : AD} {τ : RH} {Lv : Nat → Bool} {C : ME} {ρ : RH} (hH : HH g ad Lv C ρ τ) (hI : cI Lv C) {k : Nat} (hk : k < cNp C) : Sp l g yJx4a65c_get_915e3 (.code yJx4a65c_get_915e3 cJx4a65c_get_915e3 2 (some (.object "java/lang/Object"))) (rmv 2 0 0) [.ref (ad 3), .int (nI k)] ad τ 0 0 (fun v ad' τ' => v = some (.ref (ad (40 + k))) ∧ ad' = ad ∧ τ' = τ) NoX := by
  obtain ⟨h1, h2, -, -, -, -, h3, -, h4, -⟩ := hI
  have e := row_ref (ad := ad) (w := C 4) (f := fun i => 40 + i) (h4 k hk) (by omega)
  have h := sp_Jx4a65c_get_915e3 (l := l) (N := 10) (H_lis1 hH (by decide) rfl h3 (by omega)) (H_row hH (by decide) h3 (by omega)) hk (by omega) (by decide)
  exact h.mono (fun v a t q => ⟨by rw [q.1, e], q.2⟩) (fun _ _ _ q => q)
theorem cI_lin {Lv : Nat → Bool} {C : ME} (hI : cI Lv C) {b : Nat} (hb : b < cNb C) : cLin Lv C b ∧ b < 2 := ⟨hI.2.2.2.2.2.2.2.2.2.1 b hb, Nat.lt_of_lt_of_le hb hI.1⟩
theorem cI_prp {Lv : Nat → Bool} {C : ME} (hI : cI Lv C) {j : Nat} (hj : j < cNp C) : (Lv (40 + j) = true ∧ C (40 + j) 0 = nI j ∧ ∃ ln, ln < cNb C ∧ C (40 + j) 1 = nI ln) ∧ j < 8 := ⟨hI.2.2.2.2.2.2.2.2.2.2.2.1 j hj, Nat.lt_of_lt_of_le hj hI.2.1⟩
theorem sp_get_queue {l : Launch} {g : GW} {ad : AD} {τ : RH} {Lv : Nat → Bool} {C : ME} {ρ : RH} (hH : HH g ad Lv C ρ τ) (hI : cI Lv C) {b k : Nat} (hb : b < cNb C) (hk : k < cNq C b) : Sp l g yJx4a65c_get_915e3 (.code yJx4a65c_get_915e3 cJx4a65c_get_915e3 2 (some (.object "java/lang/Object"))) (rmv 2 0 0) [.ref (ad (11 + 10 * b)), .int (nI k)] ad τ 0 0 (fun v ad' τ' => v = some (.ref (ad (40 + tn (C (12 + 10 * b) k)))) ∧ ad' = ad ∧ τ' = τ) NoX := by
  obtain ⟨⟨-, -, -, -, -, -, h1, h3, -, -, -, h4⟩, hb2⟩ := cI_lin hI hb
  obtain ⟨q, hq, hq2⟩ := h4 k hk
  have h8 := hI.2.1
  have e := row_ref (ad := ad) (w := C (12 + 10 * b)) (f := fun i => 40 + i) hq2 (by omega)
  have hr := H_row hH (by omega) h3 (by omega)
  rw [show 11 + 10 * b + 1 = 12 + 10 * b by omega, ob_qrow hb2] at hr
  have hl := H_lis1 hH (by omega) (ob_queue hb2) h3 (by omega)
  rw [show 11 + 10 * b + 1 = 12 + 10 * b by omega] at hl
  have h := sp_Jx4a65c_get_915e3 (l := l) (N := 10) hl hr hk (by omega) (by decide)
  exact h.mono (fun v a t q => ⟨by rw [q.1, e, hq2, tn_nI (by omega)], q.2⟩) (fun _ _ _ q => q)
theorem H_beam {g : GW} {ad : AD} {Lv : Nat → Bool} {C : ME} {ρ τ : RH} (hH : HH g ad Lv C ρ τ) (hI : cI Lv C) {b : Nat} (hb : b < cNb C) : τ (10 + 10 * b) = some (beO ad (10 + 10 * b) (C (10 + 10 * b))) := by
  obtain ⟨h, hb2⟩ := cI_lin hI hb
  rw [hH.at (by omega) h.1, ob_beam hb2]
theorem H_prop {g : GW} {ad : AD} {Lv : Nat → Bool} {C : ME} {ρ τ : RH} (hH : HH g ad Lv C ρ τ) (hI : cI Lv C) {j : Nat} (hj : j < cNp C) : τ (40 + j) = some (ppO ad (C (40 + j))) := by
  obtain ⟨h, hj8⟩ := cI_prp hI hj
  rw [hH.at (by omega) h.1, ob_prop hj8]
theorem H_prop2 {g : GW} {ad : AD} {Lv : Nat → Bool} {C : ME} {ρ τ : RH} (hH : HH g ad Lv C ρ τ) (hI : cI Lv C) {j : Nat} (hj : j < cNp C) : τ (40 + j) = some (prO (C (40 + j) 0) (.ref (ad (10 + 10 * tn (C (40 + j) 1)))) (C (40 + j) 2) (C (40 + j) 3) (C (40 + j) 4) (C (40 + j) 5) (C (40 + j) 6) (C (40 + j) 7) (C (40 + j) 8) (C (40 + j) 9) (C (40 + j) 10) (C (40 + j) 11) (C (40 + j) 12)) := H_prop hH hI hj
theorem H_kept {g : GW} {ad : AD} {Lv : Nat → Bool} {C : ME} {ρ τ : RH} (hH : HH g ad Lv C ρ τ) (hI : cI Lv C) {b : Nat} (hb : b < cNb C) : τ (13 + 10 * b) = some (calO ad (14 + 10 * b) (cNq C b) (C (13 + 10 * b) 2)) ∧ τ (14 + 10 * b) = some (arI g 8 (C (14 + 10 * b))) ∧ cNq C b ≤ 8 := by
  obtain ⟨⟨-, h1, h2, -, -, -, h3, -, h4, -⟩, hb2⟩ := cI_lin hI hb
  refine ⟨?_, by rw [hH.at (by omega) h2, ob_keptL hb2], h3⟩
  rw [hH.at (by omega) h1, ob_kept hb2]
  unfold caO calO
  rw [h4, show 13 + 10 * b + 1 = 14 + 10 * b by omega]
theorem H_lines {g : GW} {ad : AD} {Lv : Nat → Bool} {C : ME} {ρ τ : RH} (hH : HH g ad Lv C ρ τ) (hI : cI Lv C) : τ 0 = some (offO ad (C 0)) ∧ τ 1 = some (liO (C 1 0) (if cNb C = 0 then .ref g.2.2 else .ref (ad 2)) (cNb C)) ∧ τ 3 = some (liO (C 3 0) (if cNp C = 0 then .ref g.2.2 else .ref (ad 4)) (cNp C)) ∧ C 1 2 = nI (cNb C) ∧ C 3 2 = nI (cNp C) :=
  ⟨hH.at (by decide) hI.2.2.1, H_lis hH (by decide) rfl hI.2.2.2.2.2.1, H_lis hH (by decide) rfl hI.2.2.2.2.2.2.1, hI.2.2.2.2.2.1.1, hI.2.2.2.2.2.2.1.1⟩
/-- a number of a beamline, of a proposal -/
abbrev okL (C : ME) (b : Int32) : Prop := ¬ b < 0 ∧ ¬ nI (cNb C) ≤ b
abbrev okP (C : ME) (j : Int32) : Prop := ¬ j < 0 ∧ ¬ nI (cNp C) ≤ j
abbrev win (x lo hi : Int32) : Prop := lo ≤ x ∧ x ≤ hi
theorem okL_ix {Lv : Nat → Bool} {C : ME} (hI : cI Lv C) {b : Int32} (h : okL C b) : b = nI (tn b) ∧ tn b < cNb C := ix_lt h.1 h.2 (by have := hI.1; omega)
theorem okP_ix {Lv : Nat → Bool} {C : ME} (hI : cI Lv C) {b : Int32} (h : okP C b) : b = nI (tn b) ∧ tn b < cNp C := ix_lt h.1 h.2 (by have := hI.2.1; omega)
theorem win_if {x lo hi : Int32} {v : Int32} (h : (v = 1 ∧ win x lo hi) ∨ (v = 0 ∧ ¬ win x lo hi)) : (v = 0 → ¬ win x lo hi) ∧ (¬ v = 0 → win x lo hi) := by
  rcases h with ⟨rfl, h⟩ | ⟨rfl, h⟩
  · exact ⟨fun q => absurd q (by decide), fun _ => h⟩
  · exact ⟨fun _ => h, fun q => absurd rfl q⟩
theorem lt_ge {x y : Int32} (h : x < y) (h2 : y ≤ x) : False := by
  rw [Int32.lt_iff_toInt_lt] at h
  rw [Int32.le_iff_toInt_le] at h2
  omega
theorem ge_lt {x y : Int32} (h : ¬ x < y) : y ≤ x := by
  rw [Int32.lt_iff_toInt_lt] at h
  rw [Int32.le_iff_toInt_le]
  omega
theorem le_gt {x y : Int32} (h : ¬ x ≤ y) : y < x := by
  rw [Int32.le_iff_toInt_le] at h
  rw [Int32.lt_iff_toInt_lt]
  omega
set_option maxHeartbeats 4000000 in
set_option maxRecDepth 100000 in
theorem sp_X3_isWithin {l : Launch} {g : GW} {ad : AD} {τ : RH} {x lo hi : Int32}  : Sp l g yX3_isWithin (.code yX3_isWithin cX3_isWithin 3 (some .boolean)) (rmv 0 0 0) [.int x, .int lo, .int hi] ad τ 0 0 (fun v ad' τ' => (∃ w, v = some (.int w) ∧ ((w = 1 ∧ win x lo hi) ∨ (w = 0 ∧ ¬ win x lo hi))) ∧ ad' = ad ∧ τ' = τ) (NoX) := by
  refine Sp.of 0 [some (.int x), some (.int lo), some (.int hi)] (by decide +kernel) (Nat.le_of_ble_eq_true rfl) rfl ?_
  intro p e s m args below meth c A cx hout hr hnm
  refine a_iload_n cx dX3_isWithin_0 rfl rfl ?_
  refine a_iload_n cx dX3_isWithin_1 rfl rfl ?_
  refine a_icmp_lt cx (tgt := 14) dX3_isWithin_2 (by decide) (fun c_2 => ?_) (fun c_2 => ?_)
  · refine a_iconst cx (v := 0) dX3_isWithin_14 (by decide) ?_
    exact a_zret cx hr dX3_isWithin_15 (by first | rfl | decide) (Nat.le_of_ble_eq_true rfl) (Nat.le_of_ble_eq_true rfl) ⟨⟨_, rfl, Or.inr ⟨rfl, fun h => lt_ge c_2 h.1⟩⟩, rfl, rfl⟩
  · refine a_iload_n cx dX3_isWithin_5 rfl rfl ?_
    refine a_iload_n cx dX3_isWithin_6 rfl rfl ?_
    refine a_icmp_gt cx (tgt := 14) dX3_isWithin_7 (by decide) (fun c_7 => ?_) (fun c_7 => ?_)
    · refine a_iconst cx (v := 0) dX3_isWithin_14 (by decide) ?_
      exact a_zret cx hr dX3_isWithin_15 (by first | rfl | decide) (Nat.le_of_ble_eq_true rfl) (Nat.le_of_ble_eq_true rfl) ⟨⟨_, rfl, Or.inr ⟨rfl, fun h => lt_ge c_7 h.2⟩⟩, rfl, rfl⟩
    · refine a_iconst cx (v := 1) dX3_isWithin_10 (by decide) ?_
      refine a_goto cx (tgt := 15) dX3_isWithin_11 (by decide) ?_
      exact a_zret cx hr dX3_isWithin_15 (by first | rfl | decide) (Nat.le_of_ble_eq_true rfl) (Nat.le_of_ble_eq_true rfl) ⟨⟨_, rfl, Or.inl ⟨rfl, ge_lt c_2, ge_lt c_7⟩⟩, rfl, rfl⟩

set_option maxHeartbeats 4000000 in
set_option maxRecDepth 100000 in
theorem sp_X3_beamlineNumbered {l : Launch} {g : GW} {ad : AD} {τ : RH} {Lv : Nat → Bool} {C : ME} {ρ : RH} {b : Int32} (hH : HH g ad Lv C ρ τ) (hI : cI Lv C) : Sp l g yX3_beamlineNumbered (.code yX3_beamlineNumbered cX3_beamlineNumbered 2 (some (.object "BeamOffice$Beamline"))) (rmv 6 1 6) [.ref (ad 0), .int b] ad τ 1 6 (fun v ad' τ' => okL C b ∧ v = some (.ref (ad (10 + 10 * tn b))) ∧ ad' = ad ∧ τ' = τ) (fun E ad' τ' => ¬ okL C b ∧ E = "java/lang/IndexOutOfBoundsException" ∧ ad' = ad ∧ τ' = τ) := by
  refine Sp.of 0 [some (.ref (ad 0)), some (.int b)] (by decide +kernel) (Nat.le_of_ble_eq_true rfl) rfl ?_
  intro p e s m args below meth c A cx hout hr hnm
  obtain ⟨hO, hL1, hL3, hs1, hs3⟩ := H_lines hH hI
  refine a_iload_n cx dX3_beamlineNumbered_0 rfl rfl ?_
  refine a_if_lt cx (tgt := 15) dX3_beamlineNumbered_1 (by decide) (fun c_1 => ?_) (fun c_1 => ?_)
  · exact a_throw cx "no such beamline" ["java/lang/RuntimeException", "java/lang/Exception"] hout (by decide +kernel) fit_names cl_X3_109 ini_IndexOutOfBoundsException th_113.1 th_113.2 (by decide +kernel) dX3_beamlineNumbered_15 dX3_beamlineNumbered_18 dX3_beamlineNumbered_19 dX3_beamlineNumbered_21 dX3_beamlineNumbered_24 (Nat.le_of_ble_eq_true rfl) (Nat.le_of_ble_eq_true rfl) (Nat.le_of_ble_eq_true rfl) (Nat.le_of_ble_eq_true rfl) (Nat.le_of_ble_eq_true rfl) (Nat.le_of_ble_eq_true rfl) ⟨fun h => h.1 c_1, rfl, rfl, rfl⟩
  · refine a_iload_n cx dX3_beamlineNumbered_4 rfl rfl ?_
    refine a_aload_n cx dX3_beamlineNumbered_5 rfl rfl ?_
    refine gf_X3_10 cx hO dX3_beamlineNumbered_6 ?_
    refine a_callV cx 0 (sp_Jx4a65c_size_8abf5 hL1) hL1 rfl ml_X3_43 im_Jx4a65c_size_8abf5 se_Jx4a65c_size_8abf5 ini_Jx4a65c cd_Jx4a65c_size_8abf5 rfl rfl (by decide +kernel) rfl rfl ⟨(Nat.le_of_ble_eq_true rfl), (Nat.le_of_ble_eq_true rfl)⟩ (Nat.le_of_ble_eq_true rfl) dX3_beamlineNumbered_9 ⟨(Nat.le_of_ble_eq_true rfl), (Nat.le_of_ble_eq_true rfl)⟩ (fun _ _ _ h => h.elim) (fun v9 ad9 τ9 hP => ?_)
    obtain ⟨rfl, h2, h3⟩ := hP
    replace h2 := h2.symm
    subst h2
    replace h3 := h3.symm
    subst h3
    refine a_icmp_lt cx (tgt := 25) dX3_beamlineNumbered_12 (by decide) (fun c_12 => ?_) (fun c_12 => ?_)
    · have hok : okL C b := ⟨c_1, fun h => lt_ge c_12 h⟩
      obtain ⟨hb1, hb2⟩ := okL_ix hI hok
      have hsp := sp_get_line (l := l) hH hI hb2
      rw [← hb1] at hsp
      have hget := H_beam hH hI hb2
      refine a_aload_n cx dX3_beamlineNumbered_25 rfl rfl ?_
      refine gf_X3_10 cx hO dX3_beamlineNumbered_26 ?_
      refine a_iload_n cx dX3_beamlineNumbered_29 rfl rfl ?_
      refine a_callV cx 1 (hsp) hL1 rfl ml_X3_224 im_Jx4a65c_get_915e3 se_Jx4a65c_get_915e3 ini_Jx4a65c cd_Jx4a65c_get_915e3 rfl rfl (by decide +kernel) rfl rfl ⟨(Nat.le_of_ble_eq_true rfl), (Nat.le_of_ble_eq_true rfl)⟩ (Nat.le_of_ble_eq_true rfl) dX3_beamlineNumbered_30 ⟨(Nat.le_of_ble_eq_true rfl), (Nat.le_of_ble_eq_true rfl)⟩ (fun _ _ _ h => h.elim) (fun v9 ad9 τ9 hP => ?_)
      obtain ⟨rfl, h2, h3⟩ := hP
      replace h2 := h2.symm
      subst h2
      replace h3 := h3.symm
      subst h3
      refine a_castS cx hget rfl cl_X3_52 dX3_beamlineNumbered_33 ?_
      exact a_aret cx hr dX3_beamlineNumbered_36 (Or.inl ⟨_, rfl⟩) (by first | exact Or.inr ⟨_, rfl⟩ | exact Or.inl rfl) (Nat.le_of_ble_eq_true rfl) (Nat.le_of_ble_eq_true rfl) ⟨hok, rfl, rfl, rfl⟩
    · exact a_throw cx "no such beamline" ["java/lang/RuntimeException", "java/lang/Exception"] hout (by decide +kernel) fit_names cl_X3_109 ini_IndexOutOfBoundsException th_113.1 th_113.2 (by decide +kernel) dX3_beamlineNumbered_15 dX3_beamlineNumbered_18 dX3_beamlineNumbered_19 dX3_beamlineNumbered_21 dX3_beamlineNumbered_24 (Nat.le_of_ble_eq_true rfl) (Nat.le_of_ble_eq_true rfl) (Nat.le_of_ble_eq_true rfl) (Nat.le_of_ble_eq_true rfl) (Nat.le_of_ble_eq_true rfl) (Nat.le_of_ble_eq_true rfl) ⟨fun h => c_12 (le_gt h.2), rfl, rfl, rfl⟩

set_option maxHeartbeats 4000000 in
set_option maxRecDepth 100000 in
theorem sp_X3_proposalNumbered {l : Launch} {g : GW} {ad : AD} {τ : RH} {Lv : Nat → Bool} {C : ME} {ρ : RH} {b : Int32} (hH : HH g ad Lv C ρ τ) (hI : cI Lv C) : Sp l g yX3_proposalNumbered (.code yX3_proposalNumbered cX3_proposalNumbered 2 (some (.object "BeamOffice$Proposal"))) (rmv 6 1 6) [.ref (ad 0), .int b] ad τ 1 6 (fun v ad' τ' => okP C b ∧ v = some (.ref (ad (40 + tn b))) ∧ ad' = ad ∧ τ' = τ) (fun E ad' τ' => ¬ okP C b ∧ E = "java/lang/IndexOutOfBoundsException" ∧ ad' = ad ∧ τ' = τ) := by
  refine Sp.of 0 [some (.ref (ad 0)), some (.int b)] (by decide +kernel) (Nat.le_of_ble_eq_true rfl) rfl ?_
  intro p e s m args below meth c A cx hout hr hnm
  obtain ⟨hO, hL1, hL3, hs1, hs3⟩ := H_lines hH hI
  refine a_iload_n cx dX3_proposalNumbered_0 rfl rfl ?_
  refine a_if_lt cx (tgt := 15) dX3_proposalNumbered_1 (by decide) (fun c_1 => ?_) (fun c_1 => ?_)
  · exact a_throw cx "no such proposal" ["java/lang/RuntimeException", "java/lang/Exception"] hout (by decide +kernel) fit_names cl_X3_109 ini_IndexOutOfBoundsException th_113.1 th_113.2 (by decide +kernel) dX3_proposalNumbered_15 dX3_proposalNumbered_18 dX3_proposalNumbered_19 dX3_proposalNumbered_21 dX3_proposalNumbered_24 (Nat.le_of_ble_eq_true rfl) (Nat.le_of_ble_eq_true rfl) (Nat.le_of_ble_eq_true rfl) (Nat.le_of_ble_eq_true rfl) (Nat.le_of_ble_eq_true rfl) (Nat.le_of_ble_eq_true rfl) ⟨fun h => h.1 c_1, rfl, rfl, rfl⟩
  · refine a_iload_n cx dX3_proposalNumbered_4 rfl rfl ?_
    refine a_aload_n cx dX3_proposalNumbered_5 rfl rfl ?_
    refine gf_X3_16 cx hO dX3_proposalNumbered_6 ?_
    refine a_callV cx 0 (sp_Jx4a65c_size_8abf5 hL3) hL3 rfl ml_X3_43 im_Jx4a65c_size_8abf5 se_Jx4a65c_size_8abf5 ini_Jx4a65c cd_Jx4a65c_size_8abf5 rfl rfl (by decide +kernel) rfl rfl ⟨(Nat.le_of_ble_eq_true rfl), (Nat.le_of_ble_eq_true rfl)⟩ (Nat.le_of_ble_eq_true rfl) dX3_proposalNumbered_9 ⟨(Nat.le_of_ble_eq_true rfl), (Nat.le_of_ble_eq_true rfl)⟩ (fun _ _ _ h => h.elim) (fun v9 ad9 τ9 hP => ?_)
    obtain ⟨rfl, h2, h3⟩ := hP
    replace h2 := h2.symm
    subst h2
    replace h3 := h3.symm
    subst h3
    refine a_icmp_lt cx (tgt := 25) dX3_proposalNumbered_12 (by decide) (fun c_12 => ?_) (fun c_12 => ?_)
    · have hok : okP C b := ⟨c_1, fun h => lt_ge c_12 h⟩
      obtain ⟨hb1, hb2⟩ := okP_ix hI hok
      have hsp := sp_get_prop (l := l) hH hI hb2
      rw [← hb1] at hsp
      have hget := H_prop hH hI hb2
      refine a_aload_n cx dX3_proposalNumbered_25 rfl rfl ?_
      refine gf_X3_16 cx hO dX3_proposalNumbered_26 ?_
      refine a_iload_n cx dX3_proposalNumbered_29 rfl rfl ?_
      refine a_callV cx 1 (hsp) hL3 rfl ml_X3_224 im_Jx4a65c_get_915e3 se_Jx4a65c_get_915e3 ini_Jx4a65c cd_Jx4a65c_get_915e3 rfl rfl (by decide +kernel) rfl rfl ⟨(Nat.le_of_ble_eq_true rfl), (Nat.le_of_ble_eq_true rfl)⟩ (Nat.le_of_ble_eq_true rfl) dX3_proposalNumbered_30 ⟨(Nat.le_of_ble_eq_true rfl), (Nat.le_of_ble_eq_true rfl)⟩ (fun _ _ _ h => h.elim) (fun v9 ad9 τ9 hP => ?_)
      obtain ⟨rfl, h2, h3⟩ := hP
      replace h2 := h2.symm
      subst h2
      replace h3 := h3.symm
      subst h3
      refine a_castS cx hget rfl cl_X3_86 dX3_proposalNumbered_33 ?_
      exact a_aret cx hr dX3_proposalNumbered_36 (Or.inl ⟨_, rfl⟩) (by first | exact Or.inr ⟨_, rfl⟩ | exact Or.inl rfl) (Nat.le_of_ble_eq_true rfl) (Nat.le_of_ble_eq_true rfl) ⟨hok, rfl, rfl, rfl⟩
    · exact a_throw cx "no such proposal" ["java/lang/RuntimeException", "java/lang/Exception"] hout (by decide +kernel) fit_names cl_X3_109 ini_IndexOutOfBoundsException th_113.1 th_113.2 (by decide +kernel) dX3_proposalNumbered_15 dX3_proposalNumbered_18 dX3_proposalNumbered_19 dX3_proposalNumbered_21 dX3_proposalNumbered_24 (Nat.le_of_ble_eq_true rfl) (Nat.le_of_ble_eq_true rfl) (Nat.le_of_ble_eq_true rfl) (Nat.le_of_ble_eq_true rfl) (Nat.le_of_ble_eq_true rfl) (Nat.le_of_ble_eq_true rfl) ⟨fun h => c_12 (le_gt h.2), rfl, rfl, rfl⟩

def cMark (f : Nat → Int32) (x : Int32) : Int32 := if x < 0 ∨ nI 10 ≤ x then 0 else if f (tn x) = 0 then 0 else 1
theorem le_nI {a b : Nat} (h : nI a ≤ nI b) (ha : b < 2 ^ 31) (hb : a < 2 ^ 31) : a ≤ b := (nI_leI hb ha).mp h
set_option maxHeartbeats 4000000 in
set_option maxRecDepth 100000 in
theorem sp_X3_isMarked {l : Launch} {g : GW} {ad : AD} {τ : RH} {r0 : Nat} {x : Int32} {f : Nat → Int32} (ha : τ r0 = some (arZ g 10 f)) : Sp l g yX3_isMarked (.code yX3_isMarked cX3_isMarked 2 (some .boolean)) (rmv 0 0 0) [.ref (ad r0), .int x] ad τ 0 0 (fun v ad' τ' => v = some (.int (cMark f x)) ∧ ad' = ad ∧ τ' = τ) (NoX) := by
  refine Sp.of 0 [some (.ref (ad r0)), some (.int x)] (by decide +kernel) (Nat.le_of_ble_eq_true rfl) rfl ?_
  intro p e s m args below meth c A cx hout hr hnm
  refine a_iload_n cx dX3_isMarked_0 rfl rfl ?_
  refine a_if_lt cx (tgt := 20) dX3_isMarked_1 (by decide) (fun c_1 => ?_) (fun c_1 => ?_)
  · refine a_iconst cx (v := 0) dX3_isMarked_20 (by decide) ?_
    exact a_zret cx hr dX3_isMarked_21 (by first | rfl | decide) (Nat.le_of_ble_eq_true rfl) (Nat.le_of_ble_eq_true rfl) ⟨vI (by unfold cMark; rw [if_pos (Or.inl c_1)]), rfl, rfl⟩
  · refine a_iload_n cx dX3_isMarked_4 rfl rfl ?_
    refine a_aload_n cx dX3_isMarked_5 rfl rfl ?_
    refine a_alen cx 2 ha rfl rfl dX3_isMarked_6 ?_
    refine a_icmp_ge cx (tgt := 20) dX3_isMarked_7 (by decide) (fun c_7 => ?_) (fun c_7 => ?_)
    · refine a_iconst cx (v := 0) dX3_isMarked_20 (by decide) ?_
      exact a_zret cx hr dX3_isMarked_21 (by first | rfl | decide) (Nat.le_of_ble_eq_true rfl) (Nat.le_of_ble_eq_true rfl) ⟨vI (by unfold cMark; rw [if_pos (show _ ∨ nI 10 ≤ _ from Or.inr c_7)]), rfl, rfl⟩
    · refine a_aload_n cx dX3_isMarked_10 rfl rfl ?_
      refine a_iload_n cx dX3_isMarked_11 rfl rfl ?_
      refine a_zld cx (tn x) ha ((ix_lt c_1 c_7 (by decide)).1) ((ix_lt c_1 c_7 (by decide)).2) (by decide) dX3_isMarked_12 ?_
      refine a_if_eq cx (tgt := 20) dX3_isMarked_13 (by decide) (fun c_13 => ?_) (fun c_13 => ?_)
      · refine a_iconst cx (v := 0) dX3_isMarked_20 (by decide) ?_
        exact a_zret cx hr dX3_isMarked_21 (by first | rfl | decide) (Nat.le_of_ble_eq_true rfl) (Nat.le_of_ble_eq_true rfl) ⟨vI (by unfold cMark; rw [if_neg (show ¬ (_ ∨ nI 10 ≤ _) from fun h => h.elim c_1 c_7), if_pos c_13]), rfl, rfl⟩
      · refine a_iconst cx (v := 1) dX3_isMarked_16 (by decide) ?_
        refine a_goto cx (tgt := 21) dX3_isMarked_17 (by decide) ?_
        exact a_zret cx hr dX3_isMarked_21 (by first | rfl | decide) (Nat.le_of_ble_eq_true rfl) (Nat.le_of_ble_eq_true rfl) ⟨vI (by unfold cMark; rw [if_neg (show ¬ (_ ∨ nI 10 ≤ _) from fun h => h.elim c_1 c_7), if_neg c_13]), rfl, rfl⟩

def kKind (x : Int32) : Int32 := if x = 45 then 100 else if x = 113 then 105 else if x = 102 then 108 else 109
set_option maxHeartbeats 4000000 in
set_option maxRecDepth 100000 in
theorem sp_X3_kindFor {l : Launch} {g : GW} {ad : AD} {τ : RH} {x : Int32}  : Sp l g yX3_kindFor (.code yX3_kindFor cX3_kindFor 1 (some .char)) (rmv 0 0 0) [.int x] ad τ 0 0 (fun v ad' τ' => v = some (.int (kKind x)) ∧ ad' = ad ∧ τ' = τ) (NoX) := by
  refine Sp.of 0 [some (.int x)] (by decide +kernel) (Nat.le_of_ble_eq_true rfl) rfl ?_
  intro p e s m args below meth c A cx hout hr hnm
  refine a_iload_n cx dX3_kindFor_0 rfl rfl ?_
  refine a_bipush cx (v := 45) dX3_kindFor_1 (by decide) ?_
  refine a_icmp_ne cx (tgt := 9) dX3_kindFor_3 (by decide) (fun c_3 => ?_) (fun c_3 => ?_)
  · refine a_iload_n cx dX3_kindFor_9 rfl rfl ?_
    refine a_bipush cx (v := 113) dX3_kindFor_10 (by decide) ?_
    refine a_icmp_ne cx (tgt := 18) dX3_kindFor_12 (by decide) (fun c_12 => ?_) (fun c_12 => ?_)
    · refine a_iload_n cx dX3_kindFor_18 rfl rfl ?_
      refine a_bipush cx (v := 102) dX3_kindFor_19 (by decide) ?_
      refine a_icmp_ne cx (tgt := 27) dX3_kindFor_21 (by decide) (fun c_21 => ?_) (fun c_21 => ?_)
      · refine a_bipush cx (v := 109) dX3_kindFor_27 (by decide) ?_
        exact a_zret cx hr dX3_kindFor_29 (by first | rfl | decide) (Nat.le_of_ble_eq_true rfl) (Nat.le_of_ble_eq_true rfl) ⟨vI (by unfold kKind; rw [if_neg c_3, if_neg c_12, if_neg c_21]), rfl, rfl⟩
      · refine a_bipush cx (v := 108) dX3_kindFor_24 (by decide) ?_
        exact a_zret cx hr dX3_kindFor_26 (by first | rfl | decide) (Nat.le_of_ble_eq_true rfl) (Nat.le_of_ble_eq_true rfl) ⟨vI (by subst c_21; rfl), rfl, rfl⟩
    · refine a_bipush cx (v := 105) dX3_kindFor_15 (by decide) ?_
      exact a_zret cx hr dX3_kindFor_17 (by first | rfl | decide) (Nat.le_of_ble_eq_true rfl) (Nat.le_of_ble_eq_true rfl) ⟨vI (by subst c_12; rfl), rfl, rfl⟩
  · refine a_bipush cx (v := 100) dX3_kindFor_6 (by decide) ?_
    exact a_zret cx hr dX3_kindFor_8 (by first | rfl | decide) (Nat.le_of_ble_eq_true rfl) (Nat.le_of_ble_eq_true rfl) ⟨vI (by subst c_3; rfl), rfl, rfl⟩

theorem H_kept' {g : GW} {ad : AD} {Lv : Nat → Bool} {C : ME} {ρ τ : RH} (hH : HH g ad Lv C ρ τ) (hI : cI Lv C) {b : Nat} (hb : b < cNb C) : τ (10 + 10 * b + 3) = some (calO ad (10 + 10 * b + 4) (cNq C b) (C (13 + 10 * b) 2)) ∧ τ (10 + 10 * b + 4) = some (arI g 8 (C (14 + 10 * b))) ∧ cNq C b ≤ 8 := by
  have h := H_kept hH hI hb
  rw [show 13 + 10 * b = 10 + 10 * b + 3 by omega, show 14 + 10 * b = 10 + 10 * b + 4 by omega] at h
  rw [show 13 + 10 * b = 10 + 10 * b + 3 by omega, show 14 + 10 * b = 10 + 10 * b + 4 by omega]
  exact h
theorem H_queue' {g : GW} {ad : AD} {Lv : Nat → Bool} {C : ME} {ρ τ : RH} (hH : HH g ad Lv C ρ τ) (hI : cI Lv C) {b : Nat} (hb : b < cNb C) : τ (10 + 10 * b + 1) = some (liO (C (11 + 10 * b) 0) (if cNq C b = 0 then .ref g.2.2 else .ref (ad (12 + 10 * b))) (cNq C b)) := by
  obtain ⟨h, hb2⟩ := cI_lin hI hb
  have h2 := H_lis hH (by omega) (ob_queue hb2) h.2.2.2.2.2.2.2.1
  rw [show 11 + 10 * b + 1 = 12 + 10 * b by omega] at h2
  rw [show 10 + 10 * b + 1 = 11 + 10 * b by omega]
  exact h2
/-- what a place of the queue holds -/
def cAt (C : ME) (b : Nat) (p : Int32) : Option Nat := if p < 0 ∨ nI (cNq C b) ≤ p then none else some (tn (C (12 + 10 * b) (tn p)))
def cCur (C : ME) (b : Nat) : Option Nat := cAt C b (oI (kFst (cNq C b) (C (14 + 10 * b))))
theorem cAt_lt {Lv : Nat → Bool} {C : ME} (hI : cI Lv C) {b : Nat} (hb : b < cNb C) {p : Int32} {j : Nat} (h : cAt C b p = some j) : j < cNp C := by
  unfold cAt at h
  by_cases h1 : p < 0 ∨ nI (cNq C b) ≤ p
  · rw [if_pos h1] at h; cases h
  · rw [if_neg h1] at h; cases h
    have hb2 := (cI_lin hI hb).2
    obtain ⟨⟨-, -, -, -, -, -, h3, -, -, -, -, h4⟩, -⟩ := cI_lin hI hb
    obtain ⟨q, hq, hq2⟩ := h4 (tn p) (ix_lt (fun x => h1 (Or.inl x)) (fun x => h1 (Or.inr x)) (by omega)).2
    have := hI.2.1
    rw [hq2, tn_nI (by omega)]; exact hq
set_option maxHeartbeats 4000000 in
set_option maxRecDepth 100000 in
/-- proposalAt(place) -/
theorem sp_X0_proposalAt {l : Launch} {g : GW} {ad : AD} {τ : RH} {Lv : Nat → Bool} {C : ME} {ρ : RH} {b : Nat} {q : Int32} (hH : HH g ad Lv C ρ τ) (hI : cI Lv C) (hb : b < cNb C) : Sp l g yX0_proposalAt (.code yX0_proposalAt cX0_proposalAt 2 (some (.object "BeamOffice$Proposal"))) (rmv 4 0 0) [.ref (ad (10 + 10 * b)), .int q] ad τ 0 0 (fun v ad' τ' => v = some (va_rf ((cAt C b q).map fun j => ad (40 + j))) ∧ ad' = ad ∧ τ' = τ) (NoX) := by
  refine Sp.of 0 [some (.ref (ad (10 + 10 * b))), some (.int q)] (by decide +kernel) (Nat.le_of_ble_eq_true rfl) rfl ?_
  intro p e s m args below meth c A cx hout hr hnm
  have hB := H_beam hH hI hb
  have hQ := H_queue' hH hI hb
  have hq8 := (H_kept' hH hI hb).2.2
  refine a_iload_n cx dX0_proposalAt_0 rfl rfl ?_
  refine a_if_lt cx (tgt := 15) dX0_proposalAt_1 (by decide) (fun c_1 => ?_) (fun c_1 => ?_)
  · refine a_null cx dX0_proposalAt_15 ?_
    exact a_aret cx hr dX0_proposalAt_16 (Or.inl ⟨_, rfl⟩) (Or.inl rfl) (Nat.le_of_ble_eq_true rfl) (Nat.le_of_ble_eq_true rfl) ⟨by unfold cAt; rw [if_pos (Or.inl c_1)]; rfl, rfl, rfl⟩
  · refine a_iload_n cx dX0_proposalAt_4 rfl rfl ?_
    refine a_aload_n cx dX0_proposalAt_5 rfl rfl ?_
    refine gf_X0_12 cx hB dX0_proposalAt_6 ?_
    refine a_callV cx 0 (sp_Jx4a65c_size_8abf5 hQ) hQ rfl ml_X0_75 im_Jx4a65c_size_8abf5 se_Jx4a65c_size_8abf5 ini_Jx4a65c cd_Jx4a65c_size_8abf5 rfl rfl (by decide +kernel) rfl rfl ⟨(Nat.le_of_ble_eq_true rfl), (Nat.le_of_ble_eq_true rfl)⟩ (Nat.le_of_ble_eq_true rfl) dX0_proposalAt_9 ⟨(Nat.le_of_ble_eq_true rfl), (Nat.le_of_ble_eq_true rfl)⟩ (fun _ _ _ h => h.elim) (fun v9 ad9 τ9 hP => ?_)
    obtain ⟨rfl, h2, h3⟩ := hP
    replace h2 := h2.symm
    subst h2
    replace h3 := h3.symm
    subst h3
    refine a_icmp_lt cx (tgt := 17) dX0_proposalAt_12 (by decide) (fun c_12 => ?_) (fun c_12 => ?_)
    · have hi := ix_lt' c_1 c_12 (by omega)
      have hsp := sp_get_queue (l := l) hH hI hb hi.2
      rw [← hi.1, show 11 + 10 * b = 10 + 10 * b + 1 by omega] at hsp
      have hcat : cAt C b q = some (tn (C (12 + 10 * b) (tn q))) := by unfold cAt; rw [if_neg (fun h => h.elim c_1 (fun h => lt_ge c_12 h))]
      have hget := H_prop hH hI (cAt_lt hI hb hcat)
      refine a_aload_n cx dX0_proposalAt_17 rfl rfl ?_
      refine gf_X0_12 cx hB dX0_proposalAt_18 ?_
      refine a_iload_n cx dX0_proposalAt_21 rfl rfl ?_
      refine a_callV cx 1 (hsp) hQ rfl ml_X0_79 im_Jx4a65c_get_915e3 se_Jx4a65c_get_915e3 ini_Jx4a65c cd_Jx4a65c_get_915e3 rfl rfl (by decide +kernel) rfl rfl ⟨(Nat.le_of_ble_eq_true rfl), (Nat.le_of_ble_eq_true rfl)⟩ (Nat.le_of_ble_eq_true rfl) dX0_proposalAt_22 ⟨(Nat.le_of_ble_eq_true rfl), (Nat.le_of_ble_eq_true rfl)⟩ (fun _ _ _ h => h.elim) (fun v9 ad9 τ9 hP => ?_)
      obtain ⟨rfl, h2, h3⟩ := hP
      replace h2 := h2.symm
      subst h2
      replace h3 := h3.symm
      subst h3
      refine a_castS cx hget rfl cl_X0_60 dX0_proposalAt_25 ?_
      exact a_aret cx hr dX0_proposalAt_28 (Or.inl ⟨_, rfl⟩) (by first | exact Or.inr ⟨_, rfl⟩ | exact Or.inl rfl) (Nat.le_of_ble_eq_true rfl) (Nat.le_of_ble_eq_true rfl) ⟨by rw [hcat]; rfl, rfl, rfl⟩
    · refine a_null cx dX0_proposalAt_15 ?_
      exact a_aret cx hr dX0_proposalAt_16 (Or.inl ⟨_, rfl⟩) (Or.inl rfl) (Nat.le_of_ble_eq_true rfl) (Nat.le_of_ble_eq_true rfl) ⟨by unfold cAt; rw [if_pos (Or.inr (ge_lt c_12))]; rfl, rfl, rfl⟩

set_option maxHeartbeats 4000000 in
set_option maxRecDepth 100000 in
/-- current() -/
theorem sp_X0_current {l : Launch} {g : GW} {ad : AD} {τ : RH} {Lv : Nat → Bool} {C : ME} {ρ : RH} {b : Nat} (hH : HH g ad Lv C ρ τ) (hI : cI Lv C) (hb : b < cNb C) : Sp l g yX0_current (.code yX0_current cX0_current 1 (some (.object "BeamOffice$Proposal"))) (rmv 5 0 0) [.ref (ad (10 + 10 * b))] ad τ 0 0 (fun v ad' τ' => v = some (va_rf ((cCur C b).map fun j => ad (40 + j))) ∧ ad' = ad ∧ τ' = τ) (NoX) := by
  refine Sp.of 0 [some (.ref (ad (10 + 10 * b)))] (by decide +kernel) (Nat.le_of_ble_eq_true rfl) rfl ?_
  intro p e s m args below meth c A cx hout hr hnm
  have hB := H_beam hH hI hb
  have hK := H_kept' hH hI hb
  refine a_aload_n cx dX0_current_0 rfl rfl ?_
  refine a_aload_n cx dX0_current_1 rfl rfl ?_
  refine gf_X0_21 cx hB dX0_current_2 ?_
  refine a_callV cx 0 (sp_X1_firstPlace hK.1 hK.2.1 hK.2.2) hK.1 rfl ml_X0_83 im_X1_firstPlace se_X1_firstPlace ini_X1 cd_X1_firstPlace rfl rfl (by decide +kernel) rfl rfl ⟨(Nat.le_of_ble_eq_true rfl), (Nat.le_of_ble_eq_true rfl)⟩ (Nat.le_of_ble_eq_true rfl) dX0_current_5 ⟨(Nat.le_of_ble_eq_true rfl), (Nat.le_of_ble_eq_true rfl)⟩ (fun _ _ _ h => h.elim) (fun v9 ad9 τ9 hP => ?_)
  obtain ⟨rfl, h2, h3⟩ := hP
  replace h2 := h2.symm
  subst h2
  replace h3 := h3.symm
  subst h3
  refine a_callV cx 1 (sp_X0_proposalAt hH hI hb) hB rfl ml_X0_86 im_X0_proposalAt se_X0_proposalAt ini_X0 cd_X0_proposalAt rfl rfl (by decide +kernel) rfl rfl ⟨(Nat.le_of_ble_eq_true rfl), (Nat.le_of_ble_eq_true rfl)⟩ (Nat.le_of_ble_eq_true rfl) dX0_current_8 ⟨(Nat.le_of_ble_eq_true rfl), (Nat.le_of_ble_eq_true rfl)⟩ (fun _ _ _ h => h.elim) (fun v9 ad9 τ9 hP => ?_)
  obtain ⟨rfl, h2, h3⟩ := hP
  replace h2 := h2.symm
  subst h2
  replace h3 := h3.symm
  subst h3
  exact a_aret cx hr dX0_current_11 (Or.inl ⟨_, rfl⟩) (va_rf_or _) (Nat.le_of_ble_eq_true rfl) (Nat.le_of_ble_eq_true rfl) ⟨rfl, rfl, rfl⟩

set_option maxHeartbeats 4000000 in
set_option maxRecDepth 100000 in
/-- leftKept(proposal) -/
theorem sp_X3_leftKept {l : Launch} {g : GW} {ad : AD} {τ : RH} {Lv : Nat → Bool} {C : ME} {ρ : RH} {j : Nat} (hH : HH g ad Lv C ρ τ) (hI : cI Lv C) (hj : j < cNp C) : Sp l g yX3_leftKept (.code yX3_leftKept cX3_leftKept 1 (some .int)) (rmv 3 0 0) [.ref (ad (40 + j))] ad τ 0 0 (fun v ad' τ' => v = some (.int (kAt (cNq C (tn (C (40 + j) 1))) (C (14 + 10 * tn (C (40 + j) 1))) (C (40 + j) 6))) ∧ ad' = ad ∧ τ' = τ) (NoX) := by
  refine Sp.of 0 [some (.ref (ad (40 + j)))] (by decide +kernel) (Nat.le_of_ble_eq_true rfl) rfl ?_
  intro p e s m args below meth c A cx hout hr hnm
  have hP := H_prop2 hH hI hj
  obtain ⟨⟨-, -, ln, hln, hln2⟩, hj8⟩ := cI_prp hI hj
  have hln3 : tn (C (40 + j) 1) < cNb C := by rw [hln2, tn_nI (by have := hI.1; omega)]; exact hln
  have hB := H_beam hH hI hln3
  have hK := H_kept' hH hI hln3
  refine a_aload_n cx dX3_leftKept_0 rfl rfl ?_
  refine gf_X3_183 cx hP dX3_leftKept_1 ?_
  refine gf_X3_100 cx hB dX3_leftKept_4 ?_
  refine a_aload_n cx dX3_leftKept_7 rfl rfl ?_
  refine gf_X3_193 cx hP dX3_leftKept_8 ?_
  refine a_callV cx 1 (sp_X1_leftAt hK.1 hK.2.1 hK.2.2) hK.1 rfl ml_X3_196 im_X1_leftAt se_X1_leftAt ini_X1 cd_X1_leftAt rfl rfl (by decide +kernel) rfl rfl ⟨(Nat.le_of_ble_eq_true rfl), (Nat.le_of_ble_eq_true rfl)⟩ (Nat.le_of_ble_eq_true rfl) dX3_leftKept_11 ⟨(Nat.le_of_ble_eq_true rfl), (Nat.le_of_ble_eq_true rfl)⟩ (fun _ _ _ h => h.elim) (fun v9 ad9 τ9 hP => ?_)
  obtain ⟨rfl, h2, h3⟩ := hP
  replace h2 := h2.symm
  subst h2
  replace h3 := h3.symm
  subst h3
  exact a_iret cx hr dX3_leftKept_14 (Nat.le_of_ble_eq_true rfl) (Nat.le_of_ble_eq_true rfl) ⟨rfl, rfl, rfl⟩
end
section
section JOINS
variable {l : Launch} {g : GW} {p : Program} {e : Env} {R : Room} {s : State} {m : MethodId} {args : Array Value} {below : List Frame} {meth : Method} {c : Code} {A : Nat → Prop} {nL : Nat} {Q : State → Prop} {ad : AD} {τ : RH} {cells slots pc : Nat} {lv : LV} {st : List Value}
/-- where ways meet -/
theorem a_join (K : RH → LV → Prop) (pc' : Nat) (h : ∀ τ1 lv1, K τ1 lv1 → AW l g p e R s m args below meth c A nL Q ad τ1 cells slots pc' lv1 []) (k : (∀ τ1 lv1, K τ1 lv1 → AW l g p e R s m args below meth c A nL Q ad τ1 cells slots pc' lv1 []) → AW l g p e R s m args below meth c A nL Q ad τ cells slots pc lv st) : AW l g p e R s m args below meth c A nL Q ad τ cells slots pc lv st := k h
end JOINS
/-! which numbers the class's structure rests on -/
def cT (r k : Nat) : Prop := (1 ≤ r ∧ r ≤ 4) ∨ r = 11 ∨ r = 12 ∨ r = 21 ∨ r = 22 ∨ ((r = 13 ∨ r = 23 ∨ r = 15 ∨ r = 25) ∧ k = 1) ∨ ((r = 10 ∨ r = 20) ∧ k = 6) ∨ (40 ≤ r ∧ r < 48 ∧ k ≤ 1)
/-- C' keeps what the structure rests on -/
def cE (C C' : ME) : Prop := (∀ r k, cT r k → ¬ ((r = 15 ∨ r = 25) ∧ k = 1) → ¬ ((r = 10 ∨ r = 20) ∧ k = 6) → C' r k = C r k) ∧ ∀ b, b < 2 → ((∃ na, na ≤ 8 ∧ C (15 + 10 * b) 1 = nI na) → ∃ na, na ≤ 8 ∧ C' (15 + 10 * b) 1 = nI na) ∧ ((∃ ps, ps ≤ 200 ∧ C (10 + 10 * b) 6 = nI ps) → ∃ ps, ps ≤ 200 ∧ C' (10 + 10 * b) 6 = nI ps)
theorem cE.refl (C : ME) : cE C C := ⟨fun _ _ _ _ _ => rfl, fun _ _ => ⟨fun h => h, fun h => h⟩⟩
theorem cE.trans {C C1 C2 : ME} (h : cE C C1) (k : cE C1 C2) : cE C C2 := ⟨fun r i h1 h2 h3 => (k.1 r i h1 h2 h3).trans (h.1 r i h1 h2 h3), fun b hb => ⟨fun q => (k.2 b hb).1 ((h.2 b hb).1 q), fun q => (k.2 b hb).2 ((h.2 b hb).2 q)⟩⟩
theorem cE.row {C : ME} {r : Nat} {w : Nat → Int32} (h : ∀ k, cT r k → w k = C r k) : cE C (va_up C r w) := by
  have e : ∀ r' k, cT r' k → va_up C r w r' k = C r' k := fun r' k hc => by
    by_cases hr : r' = r
    · subst hr; rw [va_up_self]; exact h k hc
    · rw [va_up_ne _ _ hr]
  refine ⟨fun r' k hc _ _ => e r' k hc, fun b hb => ⟨fun q => ?_, fun q => ?_⟩⟩
  · rw [e _ _ (by unfold cT; omega)]; exact q
  · rw [e _ _ (by unfold cT; omega)]; exact q
theorem cE.put {C : ME} {r k : Nat} {x : Int32} (h : ¬ cT r k) : cE C (up2 C r k x) := cE.row fun k' hk => va_up_ne _ _ (fun q => h (by rw [← q]; exact hk))
theorem up2_at (C : ME) (r k : Nat) (x : Int32) (r' k' : Nat) : up2 C r k x r' k' = if r' = r ∧ k' = k then x else C r' k' := by
  unfold up2
  by_cases h : r' = r
  · subst h
    rw [va_up_self]
    by_cases h2 : k' = k
    · subst h2; rw [va_up_self, if_pos ⟨rfl, rfl⟩]
    · rw [va_up_ne _ _ h2, if_neg (fun q => h2 q.2)]
  · rw [va_up_ne _ _ h, if_neg (fun q => h q.1)]
theorem cE.anew {C : ME} {b na : Nat} (hb : b < 2) (hn : na ≤ 8) : cE C (up2 C (15 + 10 * b) 1 (nI na)) := by
  refine ⟨fun r' k hc h1 _ => ?_, fun b' hb' => ⟨fun q => ?_, fun q => ?_⟩⟩
  · rw [up2_at, if_neg (fun q => h1 (by omega))]
  · rw [up2_at]; split
    · exact ⟨na, hn, rfl⟩
    · exact q
  · rw [up2_at, if_neg (by omega)]; exact q
theorem cE.passed {C : ME} {b ps : Nat} (hb : b < 2) (hn : ps ≤ 200) : cE C (up2 C (10 + 10 * b) 6 (nI ps)) := by
  refine ⟨fun r' k hc _ h1 => ?_, fun b' hb' => ⟨fun q => ?_, fun q => ?_⟩⟩
  · rw [up2_at, if_neg (fun q => h1 (by omega))]
  · rw [up2_at, if_neg (by omega)]; exact q
  · rw [up2_at]; split
    · exact ⟨ps, hn, rfl⟩
    · exact q
theorem cE.nb {C C' : ME} (h : cE C C') : cNb C' = cNb C := by unfold cNb; rw [h.1 1 2 (by unfold cT; omega) (by omega) (by omega)]
theorem cE.np {C C' : ME} (h : cE C C') : cNp C' = cNp C := by unfold cNp; rw [h.1 3 2 (by unfold cT; omega) (by omega) (by omega)]
theorem cE.lb {C C' : ME} (h : cE C C') {b : Nat} (hb : b < cNb C) : b < cNb C' := by rw [h.nb]; exact hb
theorem cE.lp {C C' : ME} (h : cE C C') {j : Nat} (hj : j < cNp C) : j < cNp C' := by rw [h.np]; exact hj
theorem cE.nq {C C' : ME} (h : cE C C') {b : Nat} (hb : b < 2) : cNq C' b = cNq C b := by unfold cNq; rw [h.1 _ 2 (by unfold cT; omega) (by omega) (by omega)]
theorem cE.q {C C' : ME} (h : cE C C') {b : Nat} (hb : b < 2) (k : Nat) : C' (12 + 10 * b) k = C (12 + 10 * b) k := h.1 _ k (by unfold cT; omega) (by omega) (by omega)
theorem cE.lis {Lv : Nat → Bool} {C C' : ME} (h : cE C C') {r n : Nat} (hr : ∀ k, cT r k) (h1 : r ≠ 15 ∧ r ≠ 25 ∧ r ≠ 10 ∧ r ≠ 20) (hr2 : ∀ k, cT (r + 1) k) (h2 : r + 1 ≠ 15 ∧ r + 1 ≠ 25 ∧ r + 1 ≠ 10 ∧ r + 1 ≠ 20) (hc : cLis Lv C r n) : cLis Lv C' r n := by
  unfold cLis at hc ⊢
  rw [h.1 r 2 (hr 2) (by omega) (by omega), h.1 r 1 (hr 1) (by omega) (by omega)]
  exact ⟨hc.1, hc.2.1, hc.2.2.1, hc.2.2.2.1, fun k a b => by rw [h.1 (r + 1) k (hr2 k) (by omega) (by omega)]; exact hc.2.2.2.2 k a b⟩
theorem cE.keep {Lv : Nat → Bool} {C C' : ME} (h : cE C C') (hI : cI Lv C) : cI Lv C' := by
  obtain ⟨h1, h2, h3, h4, h5, h6, h7, h8, h9, h10, h11, h12, h13⟩ := hI
  unfold cI
  rw [h.nb, h.np]
  refine ⟨h1, h2, h3, h4, h5, h.lis (fun k => by unfold cT; omega) (by omega) (fun k => by unfold cT; omega) (by omega) h6, h.lis (fun k => by unfold cT; omega) (by omega) (fun k => by unfold cT; omega) (by omega) h7, fun i hi => ?_, fun i hi => ?_, fun b hb => ?_, h11, fun j hj => ?_, h13⟩
  · rw [h.1 2 i (by unfold cT; omega) (by omega) (by omega)]; exact h8 i hi
  · rw [h.1 4 i (by unfold cT; omega) (by omega) (by omega)]; exact h9 i hi
  · have hb2 : b < 2 := by omega
    obtain ⟨a1, a2, a3, a4, a5, a6, a7, a8, a9, a10, a11, a12⟩ := h10 b hb
    unfold cLin
    rw [h.nq hb2, h.np, h.1 (13 + 10 * b) 1 (by unfold cT; omega) (by omega) (by omega)]
    exact ⟨a1, a2, a3, a4, a5, a6, a7, h.lis (fun k => by unfold cT; omega) (by omega) (fun k => by unfold cT; omega) (by omega) a8, a9, (h.2 b hb2).1 a10, (h.2 b hb2).2 a11, fun k hk => by rw [h.q hb2]; exact a12 k hk⟩
  · have hj8 : j < 8 := by omega
    rw [h.1 (40 + j) 0 (by unfold cT; omega) (by omega) (by omega), h.1 (40 + j) 1 (by unfold cT; omega) (by omega) (by omega)]
    exact h12 j hj
/-! what a beamline's calls leave -/
/-- the calendar at role r (its row at r + 1) -/
def oCal (C : ME) (r n : Nat) (f : Nat → Int32) (rs : Int32) : ME := va_up (va_up C (r + 1) f) r (va_up (va_up (C r) 1 (nI n)) 2 rs)
def oCount (C : ME) (j : Nat) (kd : Int32) : ME := va_up C (40 + j) (va_up (va_up (va_up (C (40 + j)) 9 (if kd = 100 then C (40 + j) 9 + 1 else C (40 + j) 9)) 10 (if kd = 109 then C (40 + j) 10 + 1 else C (40 + j) 10)) 11 (if kd = 108 then C (40 + j) 11 + 1 else C (40 + j) 11))
def oCnt (C : ME) (b : Nat) (kd : Int32) : ME := match cCur C b with
  | none => C
  | some j => if kd = 100 then up2 (oCount C j kd) (10 + 10 * b) 8 ((oCount C j kd) (10 + 10 * b) 8 + (oCount C j kd) (40 + j) 5) else oCount C j kd
def cFol (C : ME) (b : Nat) (kd : Int32) : (Nat → Int32) × Int32 × Int32 := kFollow (cNq C b) (C (14 + 10 * b)) (C (13 + 10 * b) 2) kd
def oFol (C : ME) (b : Nat) (kd : Int32) : ME := oCal C (13 + 10 * b) (cNq C b) (cFol C b kd).1 (cFol C b kd).2.1
def oOwe (C : ME) (b : Nat) (q : Int32) : ME := match cAt C b q with
  | none => C
  | some j => up2 C (40 + j) 12 (C (40 + j) 12 + 1)
def oNote (C : ME) (b : Nat) (kd : Int32) : ME := if C (10 + 10 * b) 9 = 0 ∨ nI 200 ≤ C (10 + 10 * b) 6 then C else up2 (up2 C (17 + 10 * b) (tn (C (10 + 10 * b) 6)) kd) (10 + 10 * b) 6 (nI (tn (C (10 + 10 * b) 6) + 1))
def oDrain (C : ME) (b : Nat) : ME := up2 C (10 + 10 * b) 8 (if 0 < C (10 + 10 * b) 8 - C (10 + 10 * b) 7 then C (10 + 10 * b) 8 - C (10 + 10 * b) 7 else 0)
def oFix (C : ME) (b : Nat) : ME := up2 C (10 + 10 * b) 10 0
def oTake (C : ME) (b : Nat) (kd : Int32) : ME := oFol (oCnt C b kd) b kd
def oLost (C : ME) (b : Nat) (kd : Int32) : ME := oOwe (oTake C b kd) b (cFol (oCnt C b kd) b kd).2.2
def oShift (C : ME) (b : Nat) (kd : Int32) : ME := oFix (oDrain (oNote (oLost C b kd) b kd) b) b
theorem cE_cal {C : ME} {b n : Nat} {f : Nat → Int32} {rs : Int32} (hb : b < 2) (hn : C (13 + 10 * b) 1 = nI n) : cE C (oCal C (13 + 10 * b) n f rs) := by
  unfold oCal
  refine (cE.row (fun k hk => absurd hk (by unfold cT; omega))).trans (cE.row (fun k hk => ?_))
  have hk1 : k = 1 := by unfold cT at hk; omega
  subst hk1
  rw [va_up_ne _ _ (by decide), va_up_self, va_up_ne _ _ (by omega), hn]
theorem cE_count {C : ME} {j : Nat} {kd : Int32} (hj : j < 8) : cE C (oCount C j kd) := cE.row fun k hk => by
  have : k ≤ 1 := by unfold cT at hk; omega
  rw [va_up_ne _ _ (by omega), va_up_ne _ _ (by omega), va_up_ne _ _ (by omega)]
theorem cE_cnt {Lv : Nat → Bool} {C : ME} (hI : cI Lv C) {b : Nat} {kd : Int32} (hb : b < cNb C) : cE C (oCnt C b kd) := by
  unfold oCnt
  rcases h : cCur C b with _ | j
  · exact cE.refl C
  · have hj := Nat.lt_of_lt_of_le (cAt_lt hI hb h) hI.2.1
    have hb2 := (cI_lin hI hb).2
    dsimp only
    split
    · exact (cE_count hj).trans (cE.put (by unfold cT; omega))
    · exact cE_count hj
theorem cE_fol {Lv : Nat → Bool} {C : ME} (hI : cI Lv C) {b : Nat} {kd : Int32} (hb : b < cNb C) : cE C (oFol C b kd) := cE_cal (cI_lin hI hb).2 (cI_lin hI hb).1.2.2.2.2.2.2.2.2.1
theorem cE_owe {Lv : Nat → Bool} {C : ME} (hI : cI Lv C) {b : Nat} {q : Int32} (hb : b < cNb C) : cE C (oOwe C b q) := by
  unfold oOwe
  rcases h : cAt C b q with _ | j
  · exact cE.refl C
  · have hj := Nat.lt_of_lt_of_le (cAt_lt hI hb h) hI.2.1
    exact cE.put (by unfold cT; omega)
theorem note_ps {Lv : Nat → Bool} {C : ME} (hI : cI Lv C) {b : Nat} (hb : b < cNb C) (h : ¬ nI 200 ≤ C (10 + 10 * b) 6) : C (10 + 10 * b) 6 = nI (tn (C (10 + 10 * b) 6)) ∧ tn (C (10 + 10 * b) 6) < 200 := by
  obtain ⟨ps, h1, h2⟩ := (cI_lin hI hb).1.2.2.2.2.2.2.2.2.2.2.1
  exact ix_lt (by rw [h2]; exact nI_pos (by omega)) h (by decide)
theorem cE_note {Lv : Nat → Bool} {C : ME} (hI : cI Lv C) {b : Nat} {kd : Int32} (hb : b < cNb C) : cE C (oNote C b kd) := by
  have hb2 := (cI_lin hI hb).2
  unfold oNote
  split
  · exact cE.refl C
  · rename_i h
    exact (cE.put (by unfold cT; omega)).trans (cE.passed hb2 (note_ps hI hb (fun q => h (Or.inr q))).2)
theorem cE_drain {C : ME} {b : Nat} (hb : b < 2) : cE C (oDrain C b) := cE.put (by unfold cT; omega)
theorem cE_fix {C : ME} {b : Nat} (hb : b < 2) : cE C (oFix C b) := cE.put (by unfold cT; omega)
theorem cE_take {Lv : Nat → Bool} {C : ME} (hI : cI Lv C) {b : Nat} {kd : Int32} (hb : b < cNb C) : cE C (oTake C b kd) := by
  have h := cE_cnt (kd := kd) hI hb
  exact h.trans (cE_fol (h.keep hI) (by rw [h.nb]; exact hb))
theorem cE_lost {Lv : Nat → Bool} {C : ME} (hI : cI Lv C) {b : Nat} {kd : Int32} (hb : b < cNb C) : cE C (oLost C b kd) := by
  have h := cE_take (kd := kd) hI hb
  exact h.trans (cE_owe (h.keep hI) (by rw [h.nb]; exact hb))
theorem cE_shift {Lv : Nat → Bool} {C : ME} (hI : cI Lv C) {b : Nat} {kd : Int32} (hb : b < cNb C) : cE C (oShift C b kd) := by
  have hb2 := (cI_lin hI hb).2
  have h := cE_lost (kd := kd) hI hb
  exact ((h.trans (cE_note (h.keep hI) (by rw [h.nb]; exact hb))).trans (cE_drain hb2)).trans (cE_fix hb2)
/-! the heap along them -/
theorem HH.cal {g : GW} {ad : AD} {Lv : Nat → Bool} {C : ME} {ρ τ : RH} (hH : HH g ad Lv C ρ τ) {b n : Nat} {f : Nat → Int32} {rs : Int32} (hb : b < 2) (h1 : Lv (13 + 10 * b) = true) (h2 : Lv (14 + 10 * b) = true) : HH g ad Lv (oCal C (13 + 10 * b) n f rs) ρ (va_up (va_up τ (10 + 10 * b + 4) (some (arI g 8 f))) (10 + 10 * b + 3) (some (calO ad (10 + 10 * b + 4) n rs))) := by
  rw [show 10 + 10 * b + 4 = 14 + 10 * b by omega, show 10 + 10 * b + 3 = 13 + 10 * b by omega]
  have a := hH.set (r := 14 + 10 * b) (w := f) (by omega) h2 (ob_keptL (g := g) (ad := ad) hb).symm
  have k := a.set (r := 13 + 10 * b) (w := va_up (va_up (C (13 + 10 * b)) 1 (nI n)) 2 rs) (e := calO ad (14 + 10 * b) n rs) (by omega) h1 (by
    rw [ob_kept hb, show 14 + 10 * b = 13 + 10 * b + 1 by omega]; rfl)
  unfold oCal
  rw [show 13 + 10 * b + 1 = 14 + 10 * b by omega]
  exact k
theorem HH.anew {g : GW} {ad : AD} {Lv : Nat → Bool} {C : ME} {ρ τ : RH} (hH : HH g ad Lv C ρ τ) {b n : Nat} {f : Nat → Int32} {rs : Int32} (hb : b < 2) (h1 : Lv (15 + 10 * b) = true) (h2 : Lv (16 + 10 * b) = true) : HH g ad Lv (oCal C (15 + 10 * b) n f rs) ρ (va_up (va_up τ (10 + 10 * b + 6) (some (arI g 8 f))) (10 + 10 * b + 5) (some (calO ad (10 + 10 * b + 6) n rs))) := by
  rw [show 10 + 10 * b + 6 = 16 + 10 * b by omega, show 10 + 10 * b + 5 = 15 + 10 * b by omega]
  have a := hH.set (r := 16 + 10 * b) (w := f) (by omega) h2 (ob_anewL (g := g) (ad := ad) hb).symm
  have k := a.set (r := 15 + 10 * b) (w := va_up (va_up (C (15 + 10 * b)) 1 (nI n)) 2 rs) (e := calO ad (16 + 10 * b) n rs) (by omega) h1 (by
    rw [ob_anew hb, show 16 + 10 * b = 15 + 10 * b + 1 by omega]; rfl)
  unfold oCal
  rw [show 15 + 10 * b + 1 = 16 + 10 * b by omega]
  exact k
theorem HH.beam {g : GW} {ad : AD} {Lv : Nat → Bool} {C : ME} {ρ τ : RH} (hH : HH g ad Lv C ρ τ) {b : Nat} (hb : b < 2) (h1 : Lv (10 + 10 * b) = true) (k : Nat) (x : Int32) {e : va_E} (he : e = beO ad (10 + 10 * b) (va_up (C (10 + 10 * b)) k x)) : HH g ad Lv (up2 C (10 + 10 * b) k x) ρ (va_up τ (10 + 10 * b) (some e)) := hH.put k x (by omega) h1 (by rw [ob_beam hb]; exact he)
theorem HH.prop {g : GW} {ad : AD} {Lv : Nat → Bool} {C : ME} {ρ τ : RH} (hH : HH g ad Lv C ρ τ) {j : Nat} (hj : j < 8) (h1 : Lv (40 + j) = true) {w : Nat → Int32} {e : va_E} (he : e = ppO ad w) : HH g ad Lv (va_up C (40 + j) w) ρ (va_up τ (40 + j) (some e)) := hH.set (by omega) h1 (by rw [ob_prop hj]; exact he)
theorem H_kinds {g : GW} {ad : AD} {Lv : Nat → Bool} {C : ME} {ρ τ : RH} (hH : HH g ad Lv C ρ τ) (hI : cI Lv C) {b : Nat} (hb : b < cNb C) : τ (10 + 10 * b + 7) = some (arC g 200 (C (17 + 10 * b))) := by
  obtain ⟨hL, hb2⟩ := cI_lin hI hb
  rw [show 10 + 10 * b + 7 = 17 + 10 * b by omega, hH.at (by omega) hL.2.2.2.2.2.1, ob_kinds hb2]
theorem HH.kinds {g : GW} {ad : AD} {Lv : Nat → Bool} {C : ME} {ρ τ : RH} (hH : HH g ad Lv C ρ τ) {b : Nat} (hb : b < 2) (h1 : Lv (17 + 10 * b) = true) (k : Nat) (x : Int32) : HH g ad Lv (up2 C (17 + 10 * b) k x) ρ (va_up τ (10 + 10 * b + 7) (some (arC g 200 (va_up (C (17 + 10 * b)) k x)))) := by
  rw [show 10 + 10 * b + 7 = 17 + 10 * b by omega]
  exact hH.put (r := 17 + 10 * b) k x (by omega) h1 (by rw [ob_kinds hb])
theorem nI_1t {x : Int32} {n : Nat} (h : x = nI n) : x + 1 = nI (n + 1) := by rw [h]; exact nI_1 n
set_option maxHeartbeats 4000000 in
set_option maxRecDepth 100000 in
/-- note(kind) -/
theorem sp_X0_note {l : Launch} {g : GW} {ad : AD} {τ : RH} {Lv : Nat → Bool} {C : ME} {ρ : RH} {b : Nat} {kd : Int32} (hH : HH g ad Lv C ρ τ) (hI : cI Lv C) (hb : b < cNb C) (hkd : vp_nar .char kd = kd) : Sp l g yX0_note (.code yX0_note cX0_note 2 none) (rmv 0 0 0) [.ref (ad (10 + 10 * b)), .int kd] ad τ 0 0 (fun v ad' τ' => v = none ∧ ad' = ad ∧ HH g ad Lv (oNote C b kd) ρ τ') (NoX) := by
  refine Sp.of 0 [some (.ref (ad (10 + 10 * b))), some (.int kd)] (by decide +kernel) (Nat.le_of_ble_eq_true rfl) rfl ?_
  intro p e s m args below meth c A cx hout hr hnm
  have hB := H_beam hH hI hb
  obtain ⟨hL, hb2⟩ := cI_lin hI hb
  have hK := H_kinds hH hI hb
  refine a_aload_n cx dX0_note_0 rfl rfl ?_
  refine gf_X0_42 cx hB dX0_note_1 ?_
  refine a_if_eq cx (tgt := 39) dX0_note_4 (by decide) (fun c_4 => ?_) (fun c_4 => ?_)
  · exact a_vret cx hr dX0_note_39 (Nat.le_of_ble_eq_true rfl) (Nat.le_of_ble_eq_true rfl) ⟨rfl, rfl, by unfold oNote; rw [if_pos (show _ ∨ nI 200 ≤ _ from Or.inl c_4)]; exact hH⟩
  · refine a_aload_n cx dX0_note_7 rfl rfl ?_
    refine gf_X0_32 cx hB dX0_note_8 ?_
    refine a_aload_n cx dX0_note_11 rfl rfl ?_
    refine gf_X0_28 cx hB dX0_note_12 ?_
    refine a_alen cx 0 hK rfl rfl dX0_note_15 ?_
    refine a_icmp_ge cx (tgt := 39) dX0_note_16 (by decide) (fun c_16 => ?_) (fun c_16 => ?_)
    · exact a_vret cx hr dX0_note_39 (Nat.le_of_ble_eq_true rfl) (Nat.le_of_ble_eq_true rfl) ⟨rfl, rfl, by unfold oNote; rw [if_pos (show _ ∨ nI 200 ≤ _ from Or.inr c_16)]; exact hH⟩
    · refine a_aload_n cx dX0_note_19 rfl rfl ?_
      refine gf_X0_28 cx hB dX0_note_20 ?_
      refine a_aload_n cx dX0_note_23 rfl rfl ?_
      refine gf_X0_32 cx hB dX0_note_24 ?_
      refine a_iload_n cx dX0_note_27 rfl rfl ?_
      refine a_cst cx (tn (C (10 + 10 * b) 6)) hK ((note_ps hI hb c_16).1) ((note_ps hI hb c_16).2) (by decide) hkd dX0_note_28 ?_
      have hH2 := hH.kinds hb2 hL.2.2.2.2.2.1 (tn (C (10 + 10 * b) 6)) kd
      have hz : up2 C (17 + 10 * b) (tn (C (10 + 10 * b) 6)) kd (10 + 10 * b) = C (10 + 10 * b) := va_up_ne _ _ (by omega)
      have hE1 : cE C (up2 C (17 + 10 * b) (tn (C (10 + 10 * b) 6)) kd) := cE.put (by unfold cT; omega)
      replace hB := H_beam hH2 (hE1.keep hI) (hE1.lb hb)
      rw [hz] at hB
      refine a_aload_n cx dX0_note_29 rfl rfl ?_
      refine a_dup cx dX0_note_30 rfl ?_
      refine gf_X0_32 cx hB dX0_note_31 ?_
      refine a_iconst cx (v := 1) dX0_note_34 (by decide) ?_
      refine a_iadd cx dX0_note_35 ?_
      refine pf_X0_32 cx hB dX0_note_36 ?_
      exact a_vret cx hr dX0_note_39 (Nat.le_of_ble_eq_true rfl) (Nat.le_of_ble_eq_true rfl) ⟨rfl, rfl, by unfold oNote; rw [if_neg (show ¬ (_ ∨ nI 200 ≤ _) from fun h => h.elim c_4 c_16)]; exact hH2.beam hb2 hL.1 6 _ (by rw [hz, ← nI_1t (note_ps hI hb c_16).1]; rfl)⟩

set_option maxHeartbeats 4000000 in
set_option maxRecDepth 100000 in
/-- runShift(kind) -/
theorem sp_X0_runShift {l : Launch} {g : GW} {ad : AD} {τ : RH} {Lv : Nat → Bool} {C : ME} {ρ : RH} {b : Nat} {kd : Int32} (hH : HH g ad Lv C ρ τ) (hI : cI Lv C) (hb : b < cNb C) (hkd : vp_nar .char kd = kd) : Sp l g yX0_runShift (.code yX0_runShift cX0_runShift 4 none) (rmv 6 0 0) [.ref (ad (10 + 10 * b)), .int kd] ad τ 0 0 (fun v ad' τ' => v = none ∧ ad' = ad ∧ HH g ad Lv (oShift C b kd) ρ τ') (NoX) := by
  refine Sp.of 2 [some (.ref (ad (10 + 10 * b))), some (.int kd), none, none] (by decide +kernel) (Nat.le_of_ble_eq_true rfl) rfl ?_
  intro p e s m args below meth c A cx hout hr hnm
  have hB := H_beam hH hI hb
  obtain ⟨hL, hb2⟩ := cI_lin hI hb
  refine a_join (fun τ9 lv9 => HH g ad Lv (oLost C b kd) ρ τ9 ∧ ∃ z z', lv9 = [some (.ref (ad (10 + 10 * b))), some (.int kd), z, z']) 60 ?_ (fun tail60 => ?_)
  · rintro τ1 lv1 ⟨hH, z, z', rfl⟩
    have hE := cE_lost (kd := kd) hI hb
    have hB := H_beam hH (hE.keep hI) (hE.lb hb)
    refine a_aload_n cx dX0_runShift_60 rfl rfl ?_
    refine a_iload_n cx dX0_runShift_61 rfl rfl ?_
    refine a_callV cx 1 (sp_X0_note hH (hE.keep hI) (hE.lb hb) hkd) hB rfl ml_X0_108 im_X0_note se_X0_note ini_X0 cd_X0_note rfl rfl (by decide +kernel) rfl rfl ⟨(Nat.le_of_ble_eq_true rfl), (Nat.le_of_ble_eq_true rfl)⟩ (Nat.le_of_ble_eq_true rfl) dX0_runShift_62 ⟨(Nat.le_of_ble_eq_true rfl), (Nat.le_of_ble_eq_true rfl)⟩ (fun _ _ _ h => h.elim) (fun v9 ad9 τ9 hP9 => ?_)
    obtain ⟨rfl, h2, hH2⟩ := hP9
    replace h2 := h2.symm
    subst h2
    replace hE := hE.trans (cE_note (kd := kd) (hE.keep hI) (hE.lb hb))
    replace hB := H_beam hH2 (hE.keep hI) (hE.lb hb)
    refine a_aload_n cx dX0_runShift_65 rfl rfl ?_
    refine a_iconst cx (v := 0) dX0_runShift_66 (by decide) ?_
    refine a_aload_n cx dX0_runShift_67 rfl rfl ?_
    refine gf_X0_39 cx hB dX0_runShift_68 ?_
    refine a_aload_n cx dX0_runShift_71 rfl rfl ?_
    refine gf_X0_36 cx hB dX0_runShift_72 ?_
    refine a_isub cx dX0_runShift_75 ?_
    refine a_mmax cx ml_X0_111 (Nat.le_of_ble_eq_true rfl) (Nat.le_of_ble_eq_true rfl) dX0_runShift_76 ?_
    refine pf_X0_39 cx hB dX0_runShift_79 ?_
    replace hH2 := hH2.beam hb2 hL.1 8 (if 0 < oNote (oLost C b kd) b kd (10 + 10 * b) 8 - oNote (oLost C b kd) b kd (10 + 10 * b) 7 then oNote (oLost C b kd) b kd (10 + 10 * b) 8 - oNote (oLost C b kd) b kd (10 + 10 * b) 7 else 0) (e := _) rfl
    replace hE := hE.trans (cE_drain hb2)
    replace hB := H_beam hH2 (hE.keep hI) (hE.lb hb)
    refine a_aload_n cx dX0_runShift_82 rfl rfl ?_
    refine a_iconst cx (v := 0) dX0_runShift_83 (by decide) ?_
    refine pf_X0_46 cx hB (by first | exact Or.inl rfl | exact Or.inr rfl | assumption) dX0_runShift_84 ?_
    exact a_vret cx hr dX0_runShift_87 (Nat.le_of_ble_eq_true rfl) (Nat.le_of_ble_eq_true rfl) ⟨rfl, rfl, hH2.beam hb2 hL.1 10 0 rfl⟩
  · refine a_join (fun τ9 lv9 => HH g ad Lv (oCnt C b kd) ρ τ9 ∧ ∃ z : Value, z.category = 1 ∧ lv9 = [some (.ref (ad (10 + 10 * b))), some (.int kd), some z, none]) 33 ?_ (fun tail33 => ?_)
    · rintro τ1 lv1 ⟨hH, z, hz, rfl⟩
      have hE := cE_cnt (kd := kd) hI hb
      have hB := H_beam hH (hE.keep hI) (hE.lb hb)
      have hK := H_kept' hH (hE.keep hI) (hE.lb hb)
      refine a_aload_n cx dX0_runShift_33 rfl rfl ?_
      refine a_aload_n cx dX0_runShift_34 rfl rfl ?_
      refine gf_X0_21 cx hB dX0_runShift_35 ?_
      refine a_iload_n cx dX0_runShift_38 rfl rfl ?_
      refine a_callV cx 1 (sp_X1_follow (kd := kd) hK.1 hK.2.1 hK.2.2) hK.1 rfl ml_X0_101 im_X1_follow se_X1_follow ini_X1 cd_X1_follow rfl rfl (by decide +kernel) rfl rfl ⟨(Nat.le_of_ble_eq_true rfl), (Nat.le_of_ble_eq_true rfl)⟩ (Nat.le_of_ble_eq_true rfl) dX0_runShift_39 ⟨(Nat.le_of_ble_eq_true rfl), (Nat.le_of_ble_eq_true rfl)⟩ (fun _ _ _ h => h.elim) (fun v9 ad9 τ9 hP9 => ?_)
      obtain ⟨rfl, h2, h3⟩ := hP9
      replace h2 := h2.symm
      subst h2
      replace h3 := h3.symm
      subst h3
      have hn : cNq (oCnt C b kd) b = cNq C b := hE.nq hb2
      have hH2 : HH g ad Lv (oTake C b kd) ρ _ := hH.cal hb2 hL.2.1 hL.2.2.1
      have hE2 := cE_take (kd := kd) hI hb
      replace hB := H_beam hH2 (hE2.keep hI) (hE2.lb hb)
      refine a_callV cx 1 (sp_X0_proposalAt (q := (cFol (oCnt C b kd) b kd).2.2) hH2 (hE2.keep hI) (hE2.lb hb)) hB rfl ml_X0_86 im_X0_proposalAt se_X0_proposalAt ini_X0 cd_X0_proposalAt rfl rfl (by decide +kernel) rfl rfl ⟨(Nat.le_of_ble_eq_true rfl), (Nat.le_of_ble_eq_true rfl)⟩ (Nat.le_of_ble_eq_true rfl) dX0_runShift_42 ⟨(Nat.le_of_ble_eq_true rfl), (Nat.le_of_ble_eq_true rfl)⟩ (fun _ _ _ h => h.elim) (fun v9 ad9 τ9 hP => ?_)
      obtain ⟨rfl, h2, h3⟩ := hP
      replace h2 := h2.symm
      subst h2
      replace h3 := h3.symm
      subst h3
      rcases hq : cAt (oTake C b kd) b (cFol (oCnt C b kd) b kd).2.2 with _ | j
      · refine a_astore_n3N cx dX0_runShift_45 rfl (by decide) (by intro w h; first | (cases h; rfl) | (cases h; assumption) | (cases h; done)) ?_
        refine a_aload_nN cx dX0_runShift_46 rfl rfl ?_
        refine a_ifnullN cx (tgt := 60) dX0_runShift_47 (by decide) ?_
        exact tail60 _ _ ⟨by unfold oLost oOwe; rw [hq]; exact hH2, _, _, rfl⟩
      · have hj := cAt_lt (hE2.keep hI) (hE2.lb hb) hq
        have hP := H_prop hH2 (hE2.keep hI) hj
        obtain ⟨hLj, hj8⟩ := cI_prp (hE2.keep hI) hj
        refine a_astore_n3 cx dX0_runShift_45 rfl (by decide) (by intro w h; first | (cases h; rfl) | (cases h; assumption) | (cases h; done)) ?_
        refine a_aload_n cx dX0_runShift_46 rfl rfl ?_
        refine a_ifnullR cx dX0_runShift_47 ?_
        refine a_aload_n cx dX0_runShift_50 rfl rfl ?_
        refine a_dup cx dX0_runShift_51 rfl ?_
        refine gf_X0_105 cx hP dX0_runShift_52 ?_
        refine a_iconst cx (v := 1) dX0_runShift_55 (by decide) ?_
        refine a_iadd cx dX0_runShift_56 ?_
        refine pf_X0_105 cx hP dX0_runShift_57 ?_
        exact tail60 _ _ ⟨by unfold oLost oOwe; rw [hq]; exact hH2.prop hj8 hLj.1 (w := va_up (oTake C b kd (40 + j)) 12 _) rfl, _, _, rfl⟩
    · refine a_aload_n cx dX0_runShift_0 rfl rfl ?_
      refine a_callV cx 0 (sp_X0_current hH hI hb) hB rfl ml_X0_90 im_X0_current se_X0_current ini_X0 cd_X0_current rfl rfl (by decide +kernel) rfl rfl ⟨(Nat.le_of_ble_eq_true rfl), (Nat.le_of_ble_eq_true rfl)⟩ (Nat.le_of_ble_eq_true rfl) dX0_runShift_1 ⟨(Nat.le_of_ble_eq_true rfl), (Nat.le_of_ble_eq_true rfl)⟩ (fun _ _ _ h => h.elim) (fun v9 ad9 τ9 hP => ?_)
      obtain ⟨rfl, h2, h3⟩ := hP
      replace h2 := h2.symm
      subst h2
      replace h3 := h3.symm
      subst h3
      rcases hq : cCur C b with _ | j
      · refine a_astore_n2N cx dX0_runShift_4 rfl (by decide) (by intro w h; first | (cases h; rfl) | (cases h; assumption) | (cases h; done)) ?_
        refine a_aload_nN cx dX0_runShift_5 rfl rfl ?_
        refine a_ifnullN cx (tgt := 33) dX0_runShift_6 (by decide) ?_
        exact tail33 _ _ ⟨by unfold oCnt; rw [hq]; exact hH, _, rfl, rfl⟩
      · have hj := cAt_lt hI hb hq
        have hP := H_prop2 hH hI hj
        obtain ⟨hLj, hj8⟩ := cI_prp hI hj
        refine a_astore_n2 cx dX0_runShift_4 rfl (by decide) (by intro w h; first | (cases h; rfl) | (cases h; assumption) | (cases h; done)) ?_
        refine a_aload_n cx dX0_runShift_5 rfl rfl ?_
        refine a_ifnullR cx dX0_runShift_6 ?_
        refine a_aload_n cx dX0_runShift_9 rfl rfl ?_
        refine a_iload_n cx dX0_runShift_10 rfl rfl ?_
        refine a_callV cx 1 (sp_X2_countShift (kd := kd) hP) hP rfl ml_X0_94 im_X2_countShift se_X2_countShift ini_X2 cd_X2_countShift rfl rfl (by decide +kernel) rfl rfl ⟨(Nat.le_of_ble_eq_true rfl), (Nat.le_of_ble_eq_true rfl)⟩ (Nat.le_of_ble_eq_true rfl) dX0_runShift_11 ⟨(Nat.le_of_ble_eq_true rfl), (Nat.le_of_ble_eq_true rfl)⟩ (fun _ _ _ h => h.elim) (fun v9 ad9 τ9 hP9 => ?_)
        obtain ⟨rfl, h2, h3⟩ := hP9
        replace h2 := h2.symm
        subst h2
        replace h3 := h3.symm
        subst h3
        have hH2 : HH g ad Lv (oCount C j kd) ρ _ := hH.prop hj8 hLj.1 (w := va_up (va_up (va_up (C (40 + j)) 9 (if kd = 100 then C (40 + j) 9 + 1 else C (40 + j) 9)) 10 (if kd = 109 then C (40 + j) 10 + 1 else C (40 + j) 10)) 11 (if kd = 108 then C (40 + j) 11 + 1 else C (40 + j) 11)) rfl
        have hE2 := cE_count (C := C) (kd := kd) hj8
        replace hB := H_beam hH2 (hE2.keep hI) (hE2.lb hb)
        replace hP := H_prop hH2 (hE2.keep hI) (hE2.lp hj)
        refine a_iload_n cx dX0_runShift_14 rfl rfl ?_
        refine a_bipush cx (v := 100) dX0_runShift_15 (by decide) ?_
        refine a_icmp_ne cx (tgt := 33) dX0_runShift_17 (by decide) (fun c_17 => ?_) (fun c_17 => ?_)
        · exact tail33 _ _ ⟨by unfold oCnt; rw [hq]; dsimp only; rw [if_neg c_17]; exact hH2, _, rfl, rfl⟩
        · refine a_aload_n cx dX0_runShift_20 rfl rfl ?_
          refine a_dup cx dX0_runShift_21 rfl ?_
          refine gf_X0_39 cx hB dX0_runShift_22 ?_
          refine a_aload_n cx dX0_runShift_25 rfl rfl ?_
          refine gf_X0_98 cx hP dX0_runShift_26 ?_
          refine a_iadd cx dX0_runShift_29 ?_
          refine pf_X0_39 cx hB dX0_runShift_30 ?_
          exact tail33 _ _ ⟨by unfold oCnt; rw [hq]; dsimp only; rw [if_pos c_17]; exact hH2.beam hb2 hL.1 8 _ rfl, _, rfl, rfl⟩
end
section
/-! the replay -/
abbrev K3 : Type := Nat × (Nat → Int32) × Int32
def kAl (q : K3) (w : Int32) : K3 := ((kAllot q.1 q.2.1 q.2.2 w).1, (kAllot q.1 q.2.1 q.2.2 w).2.1, (kAllot q.1 q.2.1 q.2.2 w).2.2.1)
def kFo (q : K3) (kd : Int32) : K3 := (q.1, (kFollow q.1 q.2.1 q.2.2 kd).1, (kFollow q.1 q.2.1 q.2.2 kd).2.1)
def rpA (w : Nat → Int32) : Nat → Nat → K3 → K3
  | 0, _, q => q
  | f + 1, i, q => rpA w f (i + 1) (kAl q (w i))
def rpF (kd : Nat → Int32) : Nat → Nat → K3 → K3
  | 0, _, q => q
  | f + 1, i, q => rpF kd f (i + 1) (kFo q (kd i))
theorem kAl_8 {q : K3} {w : Int32} (h : q.1 ≤ 8) : (kAl q w).1 ≤ 8 := by
  unfold kAl kAllot
  dsimp only
  split
  · exact h
  · omega
def oK (C : ME) (b : Nat) (q : K3) : ME := oCal C (15 + 10 * b) q.1 q.2.1 q.2.2
def cAll (C : ME) (b : Nat) : K3 := rpA (fun i => C (40 + tn (C (12 + 10 * b) i)) 4) (cNq C b) 0 (0, C (16 + 10 * b), C (10 + 10 * b) 0)
def cReplay (C : ME) (b : Nat) : K3 := rpF (C (17 + 10 * b)) (tn (C (10 + 10 * b) 6)) 0 (cAll C b)
theorem oCal_2 (C : ME) (r n n' : Nat) (f f' : Nat → Int32) (rs rs' : Int32) : oCal (oCal C r n f rs) r n' f' rs' = oCal C r n' f' rs' := by
  unfold oCal
  rw [va_up_self, up_com _ _ _ (show r ≠ r + 1 by omega), up_up, up_up, up_com _ rs (nI n') (by decide : 2 ≠ 1), up_up, up_up]
theorem oK_2 (C : ME) (b : Nat) (q q' : K3) : oCal (oK C b q) (15 + 10 * b) q'.1 q'.2.1 q'.2.2 = oK C b q' := oCal_2 _ _ _ _ _ _ _ _
theorem oK_ne (C : ME) {b : Nat} (q : K3) {r : Nat} (h : r ≠ 15 + 10 * b) (h2 : r ≠ 16 + 10 * b) : oK C b q r = C r := by
  unfold oK oCal
  rw [va_up_ne _ _ h, va_up_ne _ _ (by omega)]
theorem cE_k {C : ME} {b : Nat} {q : K3} (hb : b < 2) (hn : q.1 ≤ 8) : cE C (oK C b q) := by
  have e : oK C b q = up2 (up2 (va_up C (15 + 10 * b + 1) q.2.1) (15 + 10 * b) 1 (nI q.1)) (15 + 10 * b) 2 q.2.2 := by
    unfold oK oCal up2
    rw [va_up_self, up_up, va_up_ne _ _ (by omega : 15 + 10 * b ≠ 15 + 10 * b + 1)]
  rw [e]
  exact ((cE.row (fun k hk => absurd hk (by unfold cT; omega))).trans (cE.anew hb hn)).trans (cE.put (by unfold cT; omega))
theorem H_k {g : GW} {ad : AD} {Lv : Nat → Bool} {C : ME} {ρ τ : RH} {b : Nat} {q : K3} (hH : HH g ad Lv (oK C b q) ρ τ) (hb : b < 2) (h1 : Lv (15 + 10 * b) = true) (h2 : Lv (16 + 10 * b) = true) : τ (10 + 10 * b + 5) = some (calO ad (10 + 10 * b + 6) q.1 q.2.2) ∧ τ (10 + 10 * b + 6) = some (arI g 8 q.2.1) := by
  rw [show 10 + 10 * b + 5 = 15 + 10 * b by omega, show 10 + 10 * b + 6 = 16 + 10 * b by omega]
  constructor
  · rw [hH.at (by omega) h1, ob_anew hb]
    unfold oK oCal
    rw [va_up_self, show 16 + 10 * b = 15 + 10 * b + 1 by omega]
    rfl
  · rw [hH.at (by omega) h2, ob_anewL hb]
    unfold oK oCal
    rw [va_up_ne _ _ (by omega : 16 + 10 * b ≠ 15 + 10 * b), show 16 + 10 * b = 15 + 10 * b + 1 by omega, va_up_self]
theorem HH.k {g : GW} {ad : AD} {Lv : Nat → Bool} {C : ME} {ρ τ : RH} {b : Nat} {q q' : K3} (hH : HH g ad Lv (oK C b q) ρ τ) (hb : b < 2) (h1 : Lv (15 + 10 * b) = true) (h2 : Lv (16 + 10 * b) = true) : HH g ad Lv (oK C b q') ρ (va_up (va_up τ (10 + 10 * b + 6) (some (arI g 8 q'.2.1))) (10 + 10 * b + 5) (some (calO ad (10 + 10 * b + 6) q'.1 q'.2.2))) := by
  have h := hH.anew (b := b) (n := q'.1) (f := q'.2.1) (rs := q'.2.2) hb h1 h2
  rw [oK_2] at h
  exact h
theorem H_anew' {g : GW} {ad : AD} {Lv : Nat → Bool} {C : ME} {ρ τ : RH} (hH : HH g ad Lv C ρ τ) (hI : cI Lv C) {b : Nat} (hb : b < cNb C) : ∃ na, τ (10 + 10 * b + 5) = some (calO ad (10 + 10 * b + 6) na (C (15 + 10 * b) 2)) ∧ τ (10 + 10 * b + 6) = some (arI g 8 (C (16 + 10 * b))) ∧ na ≤ 8 := by
  obtain ⟨⟨-, -, -, h1, h2, -, -, -, -, ⟨na, h3, h4⟩, -⟩, hb2⟩ := cI_lin hI hb
  rw [show 10 + 10 * b + 5 = 15 + 10 * b by omega, show 10 + 10 * b + 6 = 16 + 10 * b by omega]
  refine ⟨na, ?_, by rw [hH.at (by omega) h2, ob_anewL hb2], h3⟩
  rw [hH.at (by omega) h1, ob_anew hb2, show 16 + 10 * b = 15 + 10 * b + 1 by omega]
  unfold caO calO
  rw [h4]
set_option maxHeartbeats 4000000 in
set_option maxRecDepth 100000 in
/-- replay() -/
theorem sp_X0_replay {l : Launch} {g : GW} {ad : AD} {τ : RH} {Lv : Nat → Bool} {C : ME} {ρ : RH} {b : Nat} (hH : HH g ad Lv C ρ τ) (hI : cI Lv C) (hb : b < cNb C) : Sp l g yX0_replay (.code yX0_replay cX0_replay 2 none) (rmv 5 0 0) [.ref (ad (10 + 10 * b))] ad τ 0 0 (fun v ad' τ' => v = none ∧ ad' = ad ∧ HH g ad Lv (oK C b (cReplay C b)) ρ τ') (NoX) := by
  refine Sp.of 1 [some (.ref (ad (10 + 10 * b))), none] (by decide +kernel) (Nat.le_of_ble_eq_true rfl) rfl ?_
  intro p e s m args below meth c A cx hout hr hnm
  have hB := H_beam hH hI hb
  obtain ⟨hL, hb2⟩ := cI_lin hI hb
  have hL15 := hL.2.2.2.1
  have hL16 := hL.2.2.2.2.1
  obtain ⟨na, ha, hal, hna⟩ := H_anew' hH hI hb
  have hqn := hL.2.2.2.2.2.2.1
  obtain ⟨ps, hps, hps2⟩ := hL.2.2.2.2.2.2.2.2.2.2.1
  refine a_aload_n cx dX0_replay_0 rfl rfl ?_
  refine gf_X0_25 cx hB dX0_replay_1 ?_
  refine a_aload_n cx dX0_replay_4 rfl rfl ?_
  refine gf_X0_49 cx hB dX0_replay_5 ?_
  refine a_callV cx 1 (sp_X1_begin (lf := fun _ => 0) (w := C (10 + 10 * b) 0) ha) ha rfl ml_X0_55 im_X1_begin se_X1_begin ini_X1 cd_X1_begin rfl rfl (by decide +kernel) rfl rfl ⟨(Nat.le_of_ble_eq_true rfl), (Nat.le_of_ble_eq_true rfl)⟩ (Nat.le_of_ble_eq_true rfl) dX0_replay_8 ⟨(Nat.le_of_ble_eq_true rfl), (Nat.le_of_ble_eq_true rfl)⟩ (fun _ _ _ h => h.elim) (fun v9 ad9 τ9 hP9 => ?_)
  obtain ⟨rfl, h2, h3⟩ := hP9
  replace h2 := h2.symm
  subst h2
  replace h3 := h3.symm
  subst h3
  have hH1 := hH.anew (b := b) (n := 0) (f := C (16 + 10 * b)) (rs := C (10 + 10 * b) 0) hb2 hL15 hL16
  rw [up_some hal] at hH1
  refine a_iconst cx (v := 0) dX0_replay_11 (by decide) ?_
  refine a_istore_n1 cx dX0_replay_12 rfl (by decide) (by intro w h; first | (cases h; rfl) | (cases h; assumption) | (cases h; done)) ?_
  refine a_loop (σ := Nat × K3 × RH) (fun f s => s.1 + f = cNq C b ∧ s.2.1.1 ≤ 8 ∧ HH g ad Lv (oK C b s.2.1) ρ s.2.2 ∧ rpA (fun i => C (40 + tn (C (12 + 10 * b) i)) 4) f s.1 s.2.1 = cAll C b) (fun _ => ad) (fun s => s.2.2) (fun s => [some (.ref (ad (10 + 10 * b))), some (.int (nI s.1))]) (cNq C b) (0, (0, C (16 + 10 * b), C (10 + 10 * b) 0), _) ⟨Nat.zero_add _, Nat.zero_le _, hH1, rfl⟩ rfl rfl rfl ?_
  rintro f ⟨i, q, τ1⟩ ⟨hi, hq8, hH, hx⟩ ih
  dsimp only at hi hq8 hH hx ⊢
  have hE := cE_k (C := C) (q := q) hb2 hq8
  have hB := H_beam hH (hE.keep hI) (hE.lb hb)
  rw [oK_ne C q (by omega : 10 + 10 * b ≠ 15 + 10 * b) (by omega)] at hB
  obtain ⟨hc, hl⟩ := H_k hH hb2 hL15 hL16
  have hQ := H_queue' hH (hE.keep hI) (hE.lb hb)
  rw [hE.nq hb2] at hQ
  refine a_iload_n cx dX0_replay_13 rfl rfl ?_
  refine a_aload_n cx dX0_replay_14 rfl rfl ?_
  refine gf_X0_12 cx hB dX0_replay_15 ?_
  refine a_callV cx 0 (sp_Jx4a65c_size_8abf5 hQ) hQ rfl ml_X0_75 im_Jx4a65c_size_8abf5 se_Jx4a65c_size_8abf5 ini_Jx4a65c cd_Jx4a65c_size_8abf5 rfl rfl (by decide +kernel) rfl rfl ⟨(Nat.le_of_ble_eq_true rfl), (Nat.le_of_ble_eq_true rfl)⟩ (Nat.le_of_ble_eq_true rfl) dX0_replay_18 ⟨(Nat.le_of_ble_eq_true rfl), (Nat.le_of_ble_eq_true rfl)⟩ (fun _ _ _ h => h.elim) (fun v9 ad9 τ9 hP => ?_)
  obtain ⟨rfl, h2, h3⟩ := hP
  replace h2 := h2.symm
  subst h2
  replace h3 := h3.symm
  subst h3
  refine a_icmp_ge cx (tgt := 52) dX0_replay_21 (by decide) (fun c_21 => ?_) (fun c_21 => ?_)
  · refine a_iconst cx (v := 0) dX0_replay_52 (by decide) ?_
    refine a_istore_n1 cx dX0_replay_53 rfl (by decide) (by intro w h; first | (cases h; rfl) | (cases h; assumption) | (cases h; done)) ?_
    have hz : f = 0 := by
      have h9 := le_nI c_21 (by omega) (by omega)
      omega
    subst hz
    replace hx : q = cAll C b := hx
    refine a_loop (σ := Nat × K3 × RH) (fun f s => s.1 + f = ps ∧ s.2.1.1 ≤ 8 ∧ HH g ad Lv (oK C b s.2.1) ρ s.2.2 ∧ rpF (C (17 + 10 * b)) f s.1 s.2.1 = cReplay C b) (fun _ => ad) (fun s => s.2.2) (fun s => [some (.ref (ad (10 + 10 * b))), some (.int (nI s.1))]) ps (0, q, τ1) ⟨Nat.zero_add _, hq8, hH, by rw [hx]; unfold cReplay; rw [hps2, tn_nI (by omega)]⟩ rfl rfl rfl ?_
    clear hx hH hE hB hc hl ih hi
    rintro f ⟨i, q, τ1⟩ ⟨hi, hq8, hH, hx⟩ ih
    dsimp only at hi hq8 hH hx ⊢
    have hE := cE_k (C := C) (q := q) hb2 hq8
    have hB := H_beam hH (hE.keep hI) (hE.lb hb)
    rw [oK_ne C q (by omega : 10 + 10 * b ≠ 15 + 10 * b) (by omega)] at hB
    obtain ⟨hc, hl⟩ := H_k hH hb2 hL15 hL16
    have hK := H_kinds hH (hE.keep hI) (hE.lb hb)
    rw [oK_ne C q (by omega : 17 + 10 * b ≠ 15 + 10 * b) (by omega)] at hK
    refine a_iload_n cx dX0_replay_54 rfl rfl ?_
    refine a_aload_n cx dX0_replay_55 rfl rfl ?_
    refine gf_X0_32 cx hB dX0_replay_56 ?_
    refine a_icmp_ge cx (tgt := 91) dX0_replay_59 (by decide) (fun c_59 => ?_) (fun c_59 => ?_)
    · exact a_vret cx hr dX0_replay_91 (Nat.le_of_ble_eq_true rfl) (Nat.le_of_ble_eq_true rfl) ⟨rfl, rfl, by have hz : f = 0 := (by rw [hps2] at c_59; have := le_nI c_59 (by omega) (by omega); omega); subst hz; rw [← hx]; exact hH⟩
    · have hip : i < ps := by
        rcases Nat.lt_or_ge i ps with h9 | h9
        · exact h9
        · exact absurd (by rw [hps2]; exact nI_le h9 (by omega)) c_59
      obtain ⟨f, rfl⟩ : ∃ f9, f = f9 + 1 := ⟨f - 1, by omega⟩
      refine a_iload_n cx dX0_replay_62 rfl rfl ?_
      refine a_aload_n cx dX0_replay_63 rfl rfl ?_
      refine gf_X0_28 cx hB dX0_replay_64 ?_
      refine a_alen cx 0 hK rfl rfl dX0_replay_67 ?_
      refine a_icmp_ge cx (tgt := 91) dX0_replay_68 (by decide) (fun c_68 => absurd (le_nI c_68 (by omega) (by decide)) (by omega)) (fun c_68 => ?_)
      refine a_aload_n cx dX0_replay_71 rfl rfl ?_
      refine gf_X0_25 cx hB dX0_replay_72 ?_
      refine a_aload_n cx dX0_replay_75 rfl rfl ?_
      refine gf_X0_28 cx hB dX0_replay_76 ?_
      refine a_iload_n cx dX0_replay_79 rfl rfl ?_
      refine a_cld cx (i) hK (rfl) ((by omega)) (by decide) dX0_replay_80 ?_
      refine a_callV cx 1 (sp_X1_follow (kd := C (17 + 10 * b) i) hc hl hq8) hc rfl ml_X0_101 im_X1_follow se_X1_follow ini_X1 cd_X1_follow rfl rfl (by decide +kernel) rfl rfl ⟨(Nat.le_of_ble_eq_true rfl), (Nat.le_of_ble_eq_true rfl)⟩ (Nat.le_of_ble_eq_true rfl) dX0_replay_81 ⟨(Nat.le_of_ble_eq_true rfl), (Nat.le_of_ble_eq_true rfl)⟩ (fun _ _ _ h => h.elim) (fun v9 ad9 τ9 hP9 => ?_)
      obtain ⟨rfl, h2, h3⟩ := hP9
      replace h2 := h2.symm
      subst h2
      replace h3 := h3.symm
      subst h3
      refine a_pop cx dX0_replay_84 rfl ?_
      refine a_iinc1 cx (nI (i + 1)) dX0_replay_85 (nI_1 i) (by decide) (by intro w h; first | (cases h; rfl) | (cases h; assumption) | (cases h; done)) ?_
      refine a_goto cx (tgt := 54) dX0_replay_88 (by decide) ?_
      exact ih f (i + 1, kFo q (C (17 + 10 * b) i), _) (Nat.lt_succ_self f) ⟨by omega, hq8, HH.k (q' := kFo q (C (17 + 10 * b) i)) hH hb2 hL15 hL16, hx⟩
  · have hin : i < cNq C b := by
      rcases Nat.lt_or_ge i (cNq C b) with h9 | h9
      · exact h9
      · exact absurd (nI_le h9 (by omega)) c_21
    obtain ⟨f, rfl⟩ : ∃ f9, f = f9 + 1 := ⟨f - 1, by omega⟩
    have hsp := sp_get_queue (l := l) hH (hE.keep hI) (hE.lb hb) (k := i) (by rw [hE.nq hb2]; exact hin)
    rw [hE.q hb2 i, show 11 + 10 * b = 10 + 10 * b + 1 by omega] at hsp
    obtain ⟨z, hz, hz2⟩ := hL.2.2.2.2.2.2.2.2.2.2.2 i hin
    have hj : tn (C (12 + 10 * b) i) < cNp C := by rw [hz2, tn_nI (by have := hI.2.1; omega)]; exact hz
    have hP := H_prop hH (hE.keep hI) (hE.lp hj)
    rw [oK_ne C q (by have := hI.2.1; omega : 40 + tn (C (12 + 10 * b) i) ≠ 15 + 10 * b) (by omega)] at hP
    refine a_aload_n cx dX0_replay_24 rfl rfl ?_
    refine gf_X0_25 cx hB dX0_replay_25 ?_
    refine a_aload_n cx dX0_replay_28 rfl rfl ?_
    refine gf_X0_12 cx hB dX0_replay_29 ?_
    refine a_iload_n cx dX0_replay_32 rfl rfl ?_
    refine a_callV cx 1 (hsp) hQ rfl ml_X0_79 im_Jx4a65c_get_915e3 se_Jx4a65c_get_915e3 ini_Jx4a65c cd_Jx4a65c_get_915e3 rfl rfl (by decide +kernel) rfl rfl ⟨(Nat.le_of_ble_eq_true rfl), (Nat.le_of_ble_eq_true rfl)⟩ (Nat.le_of_ble_eq_true rfl) dX0_replay_33 ⟨(Nat.le_of_ble_eq_true rfl), (Nat.le_of_ble_eq_true rfl)⟩ (fun _ _ _ h => h.elim) (fun v9 ad9 τ9 hP => ?_)
    obtain ⟨rfl, h2, h3⟩ := hP
    replace h2 := h2.symm
    subst h2
    replace h3 := h3.symm
    subst h3
    refine a_castS cx hP rfl cl_X0_60 dX0_replay_36 ?_
    refine gf_X0_59 cx hP dX0_replay_39 ?_
    refine a_callV cx 1 (sp_X1_allot hc hl hq8) hc rfl ml_X0_64 im_X1_allot se_X1_allot ini_X1 cd_X1_allot rfl rfl (by decide +kernel) rfl rfl ⟨(Nat.le_of_ble_eq_true rfl), (Nat.le_of_ble_eq_true rfl)⟩ (Nat.le_of_ble_eq_true rfl) dX0_replay_42 ⟨(Nat.le_of_ble_eq_true rfl), (Nat.le_of_ble_eq_true rfl)⟩ (fun _ _ _ h => h.elim) (fun v9 ad9 τ9 hP9 => ?_)
    obtain ⟨rfl, h2, h3⟩ := hP9
    replace h2 := h2.symm
    subst h2
    replace h3 := h3.symm
    subst h3
    refine a_pop cx dX0_replay_45 rfl ?_
    refine a_iinc1 cx (nI (i + 1)) dX0_replay_46 (nI_1 i) (by decide) (by intro w h; first | (cases h; rfl) | (cases h; assumption) | (cases h; done)) ?_
    refine a_goto cx (tgt := 13) dX0_replay_49 (by decide) ?_
    exact ih f (i + 1, kAl q (C (40 + tn (C (12 + 10 * b) i)) 4), _) (Nat.lt_succ_self f) ⟨by omega, kAl_8 hq8, HH.k (q' := kAl q (C (40 + tn (C (12 + 10 * b) i)) 4)) hH hb2 hL15 hL16, hx⟩
end
section
set_option maxHeartbeats 4000000 in
set_option maxRecDepth 100000 in
theorem sp_Jxa1e45_init_da8c8 {l : Launch} {g : GW} {ad : AD} {τ : RH} {r0 : Nat}  : Sp l g yJxa1e45_init_da8c8 (.code yJxa1e45_init_da8c8 cJxa1e45_init_da8c8 1 none) (rmv 1 0 0) [.ref (ad r0)] ad τ 0 0 (fun v ad' τ' => v = none ∧ ad' = ad ∧ τ' = τ) (NoX) := by
  refine Sp.of 0 [some (.ref (ad r0))] (by decide +kernel) (Nat.le_of_ble_eq_true rfl) rfl ?_
  intro p e s m args below meth c A cx hout hr hnm
  refine a_aload_n cx dJxa1e45_init_da8c8_0 rfl rfl ?_
  refine a_objInit cx ml_Jxa1e45_1 (Nat.le_of_ble_eq_true rfl) (Nat.le_of_ble_eq_true rfl) dJxa1e45_init_da8c8_1 ?_
  exact a_vret cx hr dJxa1e45_init_da8c8_4 (Nat.le_of_ble_eq_true rfl) (Nat.le_of_ble_eq_true rfl) ⟨rfl, rfl, rfl⟩

set_option maxHeartbeats 4000000 in
set_option maxRecDepth 100000 in
theorem sp_Jxc12de_init_da8c8 {l : Launch} {g : GW} {ad : AD} {τ : RH} {r0 : Nat} {v0 v1 v2 : Value} (hq : τ r0 = some (.inr (2, [v0, v1, v2]))) : Sp l g yJxc12de_init_da8c8 (.code yJxc12de_init_da8c8 cJxc12de_init_da8c8 1 none) (rmv 2 0 0) [.ref (ad r0)] ad τ 0 0 (fun v ad' τ' => v = none ∧ ad' = ad ∧ τ' = va_up τ r0 (some (.inr (2, [.int 0, v1, v2])))) (NoX) := by
  refine Sp.of 0 [some (.ref (ad r0))] (by decide +kernel) (Nat.le_of_ble_eq_true rfl) rfl ?_
  intro p e s m args below meth c A cx hout hr hnm
  refine a_aload_n cx dJxc12de_init_da8c8_0 rfl rfl ?_
  refine a_callI cx 0 (sp_Jxa1e45_init_da8c8) ml_Jxc12de_1 im_Jxa1e45_init_da8c8 ini_Jxa1e45 cd_Jxa1e45_init_da8c8 rfl rfl rfl (by decide +kernel) rfl rfl ⟨(Nat.le_of_ble_eq_true rfl), (Nat.le_of_ble_eq_true rfl)⟩ (Nat.le_of_ble_eq_true rfl) dJxc12de_init_da8c8_1 ⟨(Nat.le_of_ble_eq_true rfl), (Nat.le_of_ble_eq_true rfl)⟩ (fun v9 ad9 τ9 hP => ?_)
  obtain ⟨rfl, h2, h3⟩ := hP
  replace h2 := h2.symm
  subst h2
  replace h3 := h3.symm
  subst h3
  refine a_aload_n cx dJxc12de_init_da8c8_4 rfl rfl ?_
  refine a_iconst cx (v := 0) dJxc12de_init_da8c8_5 (by decide) ?_
  refine pf_Jxc12de_7 cx hq dJxc12de_init_da8c8_6 ?_
  exact a_vret cx hr dJxc12de_init_da8c8_9 (Nat.le_of_ble_eq_true rfl) (Nat.le_of_ble_eq_true rfl) ⟨rfl, rfl, rfl⟩

set_option maxHeartbeats 4000000 in
set_option maxRecDepth 100000 in
theorem sp_Jx4a65c_init_da8c8 {l : Launch} {g : GW} {ad : AD} {τ : RH} {r0 : Nat} {v0 v1 : Value} (hq : τ r0 = some (.inr (2, [v0, v1, .int 0]))) : Sp l g yJx4a65c_init_da8c8 (.code yJx4a65c_init_da8c8 cJx4a65c_init_da8c8 1 none) (rmv 3 0 0) [.ref (ad r0)] ad τ 0 0 (fun v ad' τ' => v = none ∧ ad' = ad ∧ τ' = va_up τ r0 (some (liO 0 (.ref g.2.2) 0))) (NoX) := by
  refine Sp.of 0 [some (.ref (ad r0))] (by decide +kernel) (Nat.le_of_ble_eq_true rfl) rfl ?_
  intro p e s m args below meth c A cx hout hr hnm
  refine a_aload_n cx dJx4a65c_init_da8c8_0 rfl rfl ?_
  refine a_callI cx 0 (sp_Jxc12de_init_da8c8 hq) ml_Jx4a65c_1 im_Jxc12de_init_da8c8 ini_Jxc12de cd_Jxc12de_init_da8c8 rfl rfl rfl (by decide +kernel) rfl rfl ⟨(Nat.le_of_ble_eq_true rfl), (Nat.le_of_ble_eq_true rfl)⟩ (Nat.le_of_ble_eq_true rfl) dJx4a65c_init_da8c8_1 ⟨(Nat.le_of_ble_eq_true rfl), (Nat.le_of_ble_eq_true rfl)⟩ (fun v9 ad9 τ9 hP => ?_)
  obtain ⟨rfl, h2, h3⟩ := hP
  replace h2 := h2.symm
  subst h2
  replace h3 := h3.symm
  subst h3
  refine a_aload_n cx dJx4a65c_init_da8c8_4 rfl rfl ?_
  refine a_gets cx fl_Jx4a65c_39 dJx4a65c_init_da8c8_5 ?_
  refine pf_Jx4a65c_9 cx (va_up_self _ _ _) dJx4a65c_init_da8c8_8 ?_
  exact a_vret cx hr dJx4a65c_init_da8c8_11 (Nat.le_of_ble_eq_true rfl) (Nat.le_of_ble_eq_true rfl) ⟨rfl, rfl, by rw [up_up]; rfl⟩

set_option maxHeartbeats 4000000 in
set_option maxRecDepth 100000 in
theorem sp_X1_init {l : Launch} {g : GW} {ad : AD} {τ : RH} {c0 la : Nat} {v0 v1 v2 : Value} (hc : τ c0 = some (.inr (4, [v0, v1, v2]))) (hl : τ la = none) : Sp l g yX1_init (.code yX1_init cX1_init 1 none) (rmv 1 1 8) [.ref (ad c0)] ad τ 1 8 (fun v ad' τ' => (∀ x, x ≠ la → ad' x = ad x) ∧ v = none ∧ τ' = va_up (va_up τ la (some (arI g 8 (fun _ => 0)))) c0 (some (calO ad' la 0 0))) (NoX) := by
  refine Sp.of 0 [some (.ref (ad c0))] (by decide +kernel) (Nat.le_of_ble_eq_true rfl) rfl ?_
  intro p e s m args below meth c A cx hout hr hnm
  have hne : c0 ≠ la := fun q => by rw [q, hl] at hc; cases hc
  refine a_aload_n cx dX1_init_0 rfl rfl ?_
  refine a_objInit cx ml_X1_3 (Nat.le_of_ble_eq_true rfl) (Nat.le_of_ble_eq_true rfl) dX1_init_1 ?_
  refine a_aload_n cx dX1_init_4 rfl rfl ?_
  refine a_bipush cx (v := 8) dX1_init_5 (by decide) ?_
  refine a_newaG cx (atype := .int) (t0 := 1) (N := 8) (la) (hl) (.inl (fun _ => 0)) ac_int rfl rfl rfl (fun _ => rfl) (by decide) (by decide) (Nat.le_of_ble_eq_true rfl) (Nat.le_of_ble_eq_true rfl) (Nat.le_of_ble_eq_true rfl) dX1_init_7 (fun ad9 had_7 => ?_)
  rw [← had_7 c0 hne]
  refine pf_X1_9 cx hnm (by rw [va_up_ne _ _ hne]; exact hc) dX1_init_9 ?_
  refine a_aload_n cx dX1_init_12 rfl rfl ?_
  refine a_iconst cx (v := 0) dX1_init_13 (by decide) ?_
  refine pf_X1_15 cx (va_up_self _ _ _) dX1_init_14 ?_
  refine a_aload_n cx dX1_init_17 rfl rfl ?_
  refine a_iconst cx (v := 0) dX1_init_18 (by decide) ?_
  refine pf_X1_19 cx (va_up_self _ _ _) dX1_init_19 ?_
  exact a_vret cx hr dX1_init_22 (Nat.le_of_ble_eq_true rfl) (Nat.le_of_ble_eq_true rfl) ⟨had_7, rfl, by simp only [up_up]; rfl⟩

/-- a beamline made at r0 -/
def tLine (g : GW) (ad' : AD) (τ : RH) (r0 : Nat) (s m : Int32) : RH := va_up (va_up (va_up (va_up (va_up (va_up (va_up τ (r0 + 1) (some (liO 0 (.ref g.2.2) 0))) (r0 + 4) (some (arI g 8 (fun _ => 0)))) (r0 + 3) (some (calO ad' (r0 + 4) 0 s))) (r0 + 6) (some (arI g 8 (fun _ => 0)))) (r0 + 5) (some (calO ad' (r0 + 6) 0 0))) (r0 + 7) (some (arC g 200 (fun _ => 0)))) r0 (some (.inr (3, [.int s, .int m, .ref (ad' (r0 + 1)), .ref (ad' (r0 + 3)), .ref (ad' (r0 + 5)), .ref (ad' (r0 + 7)), .int 0, .int 0, .int 0, .int 0, .int 0])))
theorem up_eval {α : Type} (f : Nat → α) (k : Nat) (x : α) (j : Nat) : va_up f k x j = if j = k then x else f j := by
  by_cases h : j = k
  · subst h; rw [va_up_self, if_pos rfl]
  · rw [va_up_ne _ _ h, if_neg h]
set_option maxHeartbeats 4000000 in
set_option maxRecDepth 100000 in
/-- Beamline(..) -/
theorem sp_X0_init {l : Launch} {g : GW} {ad : AD} {τ : RH} {r0 : Nat} {s9 m9 : Int32} {v0 v1 v2 v3 v4 v5 v6 v7 v8 v9 v10 : Value} (hB : τ r0 = some (.inr (3, [v0, v1, v2, v3, v4, v5, v6, v7, v8, v9, v10]))) (n1 : τ (r0 + 1) = none) (n3 : τ (r0 + 3) = none) (n4 : τ (r0 + 4) = none) (n5 : τ (r0 + 5) = none) (n6 : τ (r0 + 6) = none) (n7 : τ (r0 + 7) = none) : Sp l g yX0_init (.code yX0_init cX0_init 3 none) (rmv 4 6 225) [.ref (ad r0), .int s9, .int m9] ad τ 6 225 (fun v ad' τ' => (∀ x, x ≠ r0 + 1 → x ≠ r0 + 3 → x ≠ r0 + 4 → x ≠ r0 + 5 → x ≠ r0 + 6 → x ≠ r0 + 7 → ad' x = ad x) ∧ v = none ∧ τ' = tLine g ad' τ r0 s9 m9) (NoX) := by
  refine Sp.of 0 [some (.ref (ad r0)), some (.int s9), some (.int m9)] (by decide +kernel) (Nat.le_of_ble_eq_true rfl) rfl ?_
  intro p e s m args below meth c A cx hout hr hnm
  refine a_aload_n cx dX0_init_0 rfl rfl ?_
  refine a_objInit cx ml_X0_3 (Nat.le_of_ble_eq_true rfl) (Nat.le_of_ble_eq_true rfl) dX0_init_1 ?_
  refine a_aload_n cx dX0_init_4 rfl rfl ?_
  refine a_newG cx (fs := dvJx4a65c) (ci := 2) (r0 + 1) (n1) uw_Jx4a65c tyJx4a65c tyJx4a65c_ok cl_X0_9 ins_Jx4a65c ini_Jx4a65c rfl dvJx4a65c_ok (Nat.le_of_ble_eq_true rfl) (Nat.le_of_ble_eq_true rfl) dX0_init_5 (fun ad9 had_5 => ?_)
  try dsimp only [calO]
  try simp (disch := omega) only [← had_5]
  refine a_dup cx dX0_init_8 rfl ?_
  refine a_callI cx 0 (sp_Jx4a65c_init_da8c8 (va_up_self _ _ _)) ml_X0_11 im_Jx4a65c_init_da8c8 ini_Jx4a65c cd_Jx4a65c_init_da8c8 rfl rfl rfl (by decide +kernel) rfl rfl ⟨(Nat.le_of_ble_eq_true rfl), (Nat.le_of_ble_eq_true rfl)⟩ (Nat.le_of_ble_eq_true rfl) dX0_init_9 ⟨(Nat.le_of_ble_eq_true rfl), (Nat.le_of_ble_eq_true rfl)⟩ (fun v9 ad9 τ9 hP => ?_)
  obtain ⟨rfl, h2, h3⟩ := hP
  replace h2 := h2.symm
  subst h2
  replace h3 := h3.symm
  subst h3
  refine pf_X0_12 cx hnm (by first | exact va_up_self _ _ _ | assumption | (repeat rw [va_up_ne _ _ (by omega)]); first | exact va_up_self _ _ _ | assumption) dX0_init_12 ?_
  refine a_aload_n cx dX0_init_15 rfl rfl ?_
  refine a_newG cx (fs := dvX1) (ci := 4) (r0 + 3) ((by first | exact va_up_self _ _ _ | assumption | (repeat rw [va_up_ne _ _ (by omega)]); first | exact va_up_self _ _ _ | assumption)) uw_X1 tyX1 tyX1_ok cl_X0_18 ins_X1 ini_X1 rfl dvX1_ok (Nat.le_of_ble_eq_true rfl) (Nat.le_of_ble_eq_true rfl) dX0_init_16 (fun ad9 had_16 => ?_)
  try dsimp only [calO]
  try simp (disch := omega) only [← had_16]
  refine a_dup cx dX0_init_19 rfl ?_
  refine a_callIN cx 0 (sp_X1_init (c0 := r0 + 3) (la := r0 + 4) (va_up_self _ _ _) (by first | exact va_up_self _ _ _ | assumption | (repeat rw [va_up_ne _ _ (by omega)]); first | exact va_up_self _ _ _ | assumption)) mn_X0_20 im_X1_init ini_X1 cd_X1_init rfl rfl rfl (by decide +kernel) rfl rfl ⟨(Nat.le_of_ble_eq_true rfl), (Nat.le_of_ble_eq_true rfl)⟩ (Nat.le_of_ble_eq_true rfl) dX0_init_20 ⟨(Nat.le_of_ble_eq_true rfl), (Nat.le_of_ble_eq_true rfl)⟩ (fun v9 ad9 τ9 hP => ?_)
  obtain ⟨had_20, rfl, h3⟩ := hP
  replace h3 := h3.symm
  subst h3
  try dsimp only [calO]
  try simp (disch := omega) only [← had_20]
  refine pf_X0_21 cx hnm (by first | exact va_up_self _ _ _ | assumption | (repeat rw [va_up_ne _ _ (by omega)]); first | exact va_up_self _ _ _ | assumption) dX0_init_23 ?_
  refine a_aload_n cx dX0_init_26 rfl rfl ?_
  refine a_newG cx (fs := dvX1) (ci := 4) (r0 + 5) ((by first | exact va_up_self _ _ _ | assumption | (repeat rw [va_up_ne _ _ (by omega)]); first | exact va_up_self _ _ _ | assumption)) uw_X1 tyX1 tyX1_ok cl_X0_18 ins_X1 ini_X1 rfl dvX1_ok (Nat.le_of_ble_eq_true rfl) (Nat.le_of_ble_eq_true rfl) dX0_init_27 (fun ad9 had_27 => ?_)
  try dsimp only [calO]
  try simp (disch := omega) only [← had_27]
  refine a_dup cx dX0_init_30 rfl ?_
  refine a_callIN cx 0 (sp_X1_init (c0 := r0 + 5) (la := r0 + 6) (va_up_self _ _ _) (by first | exact va_up_self _ _ _ | assumption | (repeat rw [va_up_ne _ _ (by omega)]); first | exact va_up_self _ _ _ | assumption)) mn_X0_20 im_X1_init ini_X1 cd_X1_init rfl rfl rfl (by decide +kernel) rfl rfl ⟨(Nat.le_of_ble_eq_true rfl), (Nat.le_of_ble_eq_true rfl)⟩ (Nat.le_of_ble_eq_true rfl) dX0_init_31 ⟨(Nat.le_of_ble_eq_true rfl), (Nat.le_of_ble_eq_true rfl)⟩ (fun v9 ad9 τ9 hP => ?_)
  obtain ⟨had_31, rfl, h3⟩ := hP
  replace h3 := h3.symm
  subst h3
  try dsimp only [calO]
  try simp (disch := omega) only [← had_31]
  refine pf_X0_25 cx hnm (by first | exact va_up_self _ _ _ | assumption | (repeat rw [va_up_ne _ _ (by omega)]); first | exact va_up_self _ _ _ | assumption) dX0_init_34 ?_
  refine a_aload_n cx dX0_init_37 rfl rfl ?_
  refine a_sipush cx (v := 200) dX0_init_38 (by decide) ?_
  refine a_newaG cx (atype := .char) (t0 := 0) (N := 200) (r0 + 7) ((by first | exact va_up_self _ _ _ | assumption | (repeat rw [va_up_ne _ _ (by omega)]); first | exact va_up_self _ _ _ | assumption)) (.inl (fun _ => 0)) ac_char rfl rfl rfl (fun _ => rfl) (by decide) (by decide) (Nat.le_of_ble_eq_true rfl) (Nat.le_of_ble_eq_true rfl) (Nat.le_of_ble_eq_true rfl) dX0_init_41 (fun ad9 had_41 => ?_)
  try dsimp only [calO]
  try simp (disch := omega) only [← had_41]
  refine pf_X0_28 cx hnm (by first | exact va_up_self _ _ _ | assumption | (repeat rw [va_up_ne _ _ (by omega)]); first | exact va_up_self _ _ _ | assumption) dX0_init_43 ?_
  refine a_aload_n cx dX0_init_46 rfl rfl ?_
  refine a_iconst cx (v := 0) dX0_init_47 (by decide) ?_
  refine pf_X0_32 cx (by first | exact va_up_self _ _ _ | assumption | (repeat rw [va_up_ne _ _ (by omega)]); first | exact va_up_self _ _ _ | assumption) dX0_init_48 ?_
  refine a_aload_n cx dX0_init_51 rfl rfl ?_
  refine a_iconst cx (v := 0) dX0_init_52 (by decide) ?_
  refine pf_X0_36 cx (by first | exact va_up_self _ _ _ | assumption | (repeat rw [va_up_ne _ _ (by omega)]); first | exact va_up_self _ _ _ | assumption) dX0_init_53 ?_
  refine a_aload_n cx dX0_init_56 rfl rfl ?_
  refine a_iconst cx (v := 0) dX0_init_57 (by decide) ?_
  refine pf_X0_39 cx (by first | exact va_up_self _ _ _ | assumption | (repeat rw [va_up_ne _ _ (by omega)]); first | exact va_up_self _ _ _ | assumption) dX0_init_58 ?_
  refine a_aload_n cx dX0_init_61 rfl rfl ?_
  refine a_iconst cx (v := 0) dX0_init_62 (by decide) ?_
  refine pf_X0_42 cx (by first | exact va_up_self _ _ _ | assumption | (repeat rw [va_up_ne _ _ (by omega)]); first | exact va_up_self _ _ _ | assumption) (by first | exact Or.inl rfl | exact Or.inr rfl | assumption) dX0_init_63 ?_
  refine a_aload_n cx dX0_init_66 rfl rfl ?_
  refine a_iconst cx (v := 0) dX0_init_67 (by decide) ?_
  refine pf_X0_46 cx (by first | exact va_up_self _ _ _ | assumption | (repeat rw [va_up_ne _ _ (by omega)]); first | exact va_up_self _ _ _ | assumption) (by first | exact Or.inl rfl | exact Or.inr rfl | assumption) dX0_init_68 ?_
  refine a_aload_n cx dX0_init_71 rfl rfl ?_
  refine a_iload_n cx dX0_init_72 rfl rfl ?_
  refine pf_X0_49 cx hnm (by first | exact va_up_self _ _ _ | assumption | (repeat rw [va_up_ne _ _ (by omega)]); first | exact va_up_self _ _ _ | assumption) dX0_init_73 ?_
  refine a_aload_n cx dX0_init_76 rfl rfl ?_
  refine a_iload_n cx dX0_init_77 rfl rfl ?_
  refine pf_X0_52 cx hnm (by first | exact va_up_self _ _ _ | assumption | (repeat rw [va_up_ne _ _ (by omega)]); first | exact va_up_self _ _ _ | assumption) dX0_init_78 ?_
  refine a_aload_n cx dX0_init_81 rfl rfl ?_
  refine gf_X0_21 cx (by first | exact va_up_self _ _ _ | assumption | (repeat rw [va_up_ne _ _ (by omega)]); first | exact va_up_self _ _ _ | assumption) dX0_init_82 ?_
  refine a_iload_n cx dX0_init_85 rfl rfl ?_
  refine a_callV cx 1 (sp_X1_begin (lf := fun _ => 0) (w := s9) (by first | exact va_up_self _ _ _ | assumption | (repeat rw [va_up_ne _ _ (by omega)]); first | exact va_up_self _ _ _ | assumption)) (by first | exact va_up_self _ _ _ | assumption | (repeat rw [va_up_ne _ _ (by omega)]); first | exact va_up_self _ _ _ | assumption) rfl ml_X0_55 im_X1_begin se_X1_begin ini_X1 cd_X1_begin rfl rfl (by decide +kernel) rfl rfl ⟨(Nat.le_of_ble_eq_true rfl), (Nat.le_of_ble_eq_true rfl)⟩ (Nat.le_of_ble_eq_true rfl) dX0_init_86 ⟨(Nat.le_of_ble_eq_true rfl), (Nat.le_of_ble_eq_true rfl)⟩ (fun _ _ _ h => h.elim) (fun v9 ad9 τ9 hP => ?_)
  obtain ⟨rfl, h2, h3⟩ := hP
  replace h2 := h2.symm
  subst h2
  replace h3 := h3.symm
  subst h3
  exact a_vret cx hr dX0_init_89 (Nat.le_of_ble_eq_true rfl) (Nat.le_of_ble_eq_true rfl) ⟨fun x h1 h2 h3 h4 h5 h6 => by simp (disch := omega) only [had_41, had_31, had_27, had_20, had_16, had_5], rfl, by funext x; rcases (show x = r0 ∨ x = r0 + 1 ∨ x = r0 + 3 ∨ x = r0 + 4 ∨ x = r0 + 5 ∨ x = r0 + 6 ∨ x = r0 + 7 ∨ (x ≠ r0 ∧ x ≠ r0 + 1 ∧ x ≠ r0 + 3 ∧ x ≠ r0 + 4 ∧ x ≠ r0 + 5 ∧ x ≠ r0 + 6 ∧ x ≠ r0 + 7) by omega) with q | q | q | q | q | q | q | ⟨h0, h1, h3, h4, h5, h6, h7⟩ <;> simp [tLine, up_eval, *]⟩

set_option maxHeartbeats 4000000 in
set_option maxRecDepth 100000 in
/-- add(e), empty -/
theorem sp_Jx4a65c_add_9ea2d {l : Launch} {g : GW} {ad : AD} {τ : RH} {r0 r2 v0 n ci NN : Nat} {mc : Int32} {f : Nat → Option Nat} {vs : List Value} {C : String} {T : u_T} (hq : τ r0 = some (liO mc (.ref g.2.2) 0)) (h2 : τ r2 = none) (hv : τ v0 = some (.inr (ci, vs))) (hca : Cond.castable C "java/lang/Object" ∈ BW) (hw : vwCl[ci]? = some (C, T, NN)) (hnr : v0 ≠ r0) : Sp l g yJx4a65c_add_9ea2d (.code yJx4a65c_add_9ea2d cJx4a65c_add_9ea2d 2 (some .boolean)) (rmv 4 1 10) [.ref (ad r0), .ref (ad v0)] ad τ 1 10 (fun v ad' τ' => (∀ x, x ≠ r2 → ad' x = ad x) ∧ v = some (.int 1) ∧ τ' = va_up (va_up τ r2 (some (arQ g 10 (va_up (fun _ => none) 0 (some (ad' v0)))))) r0 (some (liO (mc + 1) (.ref (ad' r2)) 1))) (NoX) := by
  refine Sp.of 0 [some (.ref (ad r0)), some (.ref (ad v0))] (by decide +kernel) (Nat.le_of_ble_eq_true rfl) rfl ?_
  intro p e s m args below meth c A cx hout hr hnm
  have hne : r0 ≠ r2 := fun q => by rw [q, h2] at hq; cases hq
  refine a_aload_n cx dJx4a65c_add_9ea2d_0 rfl rfl ?_
  refine a_dup cx dJx4a65c_add_9ea2d_1 rfl ?_
  refine gf_Jx4a65c_63 cx hq dJx4a65c_add_9ea2d_2 ?_
  refine a_iconst cx (v := 1) dJx4a65c_add_9ea2d_5 (by decide) ?_
  refine a_iadd cx dJx4a65c_add_9ea2d_6 ?_
  refine pf_Jx4a65c_63 cx hq dJx4a65c_add_9ea2d_7 ?_
  have hq1 : (va_up τ r0 (some (liO (mc + 1) (.ref g.2.2) 0))) r0 = some (liO (mc + 1) (.ref g.2.2) 0) := va_up_self _ _ _
  refine a_aload_n cx dJx4a65c_add_9ea2d_10 rfl rfl ?_
  refine a_aload_n cx dJx4a65c_add_9ea2d_11 rfl rfl ?_
  refine a_aload_n cx dJx4a65c_add_9ea2d_12 rfl rfl ?_
  refine gf_Jx4a65c_9 cx hq1 dJx4a65c_add_9ea2d_13 ?_
  refine a_aload_n cx dJx4a65c_add_9ea2d_16 rfl rfl ?_
  refine gf_Jx4a65c_48 cx hq1 dJx4a65c_add_9ea2d_17 ?_
  refine a_callV cx 3 (sp_Jx4a65c_add_72be8 (r2 := r2) (n := 0) (f := fun _ => none) hq1 (by rw [va_up_ne _ _ hne.symm]; exact h2) (by rw [va_up_ne _ _ hnr]; exact hv) hca hw hnr) hq1 rfl ml_Jx4a65c_131 im_Jx4a65c_add_72be8 se_Jx4a65c_add_72be8 ini_Jx4a65c cd_Jx4a65c_add_72be8 rfl rfl (by decide +kernel) rfl rfl ⟨(Nat.le_of_ble_eq_true rfl), (Nat.le_of_ble_eq_true rfl)⟩ (Nat.le_of_ble_eq_true rfl) dJx4a65c_add_9ea2d_20 ⟨(Nat.le_of_ble_eq_true rfl), (Nat.le_of_ble_eq_true rfl)⟩ (fun _ _ _ h => h.elim) (fun v9 ad9 τ9 hP => ?_)
  obtain ⟨had, rfl, h3⟩ := hP
  replace h3 := h3.symm
  subst h3
  refine a_iconst cx (v := 1) dJx4a65c_add_9ea2d_23 (by decide) ?_
  exact a_zret cx hr dJx4a65c_add_9ea2d_24 (by first | rfl | decide) (Nat.le_of_ble_eq_true rfl) (Nat.le_of_ble_eq_true rfl) ⟨had, rfl, by rw [up_com _ _ _ hne, up_up]⟩

set_option maxHeartbeats 4000000 in
set_option maxRecDepth 100000 in
/-- add(e), not empty -/
theorem sp_addE_more {l : Launch} {g : GW} {ad : AD} {τ : RH} {r0 r2 v0 n ci NN : Nat} {mc : Int32} {f : Nat → Option Nat} {vs : List Value} {C : String} {T : u_T} (hq : τ r0 = some (liO mc (.ref (ad r2)) n)) (ha : τ r2 = some (arQ g 10 f)) (h0 : 0 < n) (h10 : n < 10) (hv : τ v0 = some (.inr (ci, vs))) (hca : Cond.castable C "java/lang/Object" ∈ BW) (hw : vwCl[ci]? = some (C, T, NN)) (hnr : v0 ≠ r0) : Sp l g yJx4a65c_add_9ea2d (.code yJx4a65c_add_9ea2d cJx4a65c_add_9ea2d 2 (some .boolean)) (rmv 4 1 10) [.ref (ad r0), .ref (ad v0)] ad τ 1 10 (fun v ad' τ' => v = some (.int 1) ∧ ad' = ad ∧ τ' = va_up (va_up τ r2 (some (arQ g 10 (va_up f n (some (ad v0)))))) r0 (some (liO (mc + 1) (.ref (ad r2)) (n + 1)))) (NoX) := by
  refine Sp.of 0 [some (.ref (ad r0)), some (.ref (ad v0))] (by decide +kernel) (Nat.le_of_ble_eq_true rfl) rfl ?_
  intro p e s m args below meth c A cx hout hr hnm
  have hne : r0 ≠ r2 := r_ne hq ha (by simp)
  refine a_aload_n cx dJx4a65c_add_9ea2d_0 rfl rfl ?_
  refine a_dup cx dJx4a65c_add_9ea2d_1 rfl ?_
  refine gf_Jx4a65c_63 cx hq dJx4a65c_add_9ea2d_2 ?_
  refine a_iconst cx (v := 1) dJx4a65c_add_9ea2d_5 (by decide) ?_
  refine a_iadd cx dJx4a65c_add_9ea2d_6 ?_
  refine pf_Jx4a65c_63 cx hq dJx4a65c_add_9ea2d_7 ?_
  have hq1 : (va_up τ r0 (some (liO (mc + 1) (.ref (ad r2)) n))) r0 = some (liO (mc + 1) (.ref (ad r2)) n) := va_up_self _ _ _
  refine a_aload_n cx dJx4a65c_add_9ea2d_10 rfl rfl ?_
  refine a_aload_n cx dJx4a65c_add_9ea2d_11 rfl rfl ?_
  refine a_aload_n cx dJx4a65c_add_9ea2d_12 rfl rfl ?_
  refine gf_Jx4a65c_9 cx hq1 dJx4a65c_add_9ea2d_13 ?_
  refine a_aload_n cx dJx4a65c_add_9ea2d_16 rfl rfl ?_
  refine gf_Jx4a65c_48 cx hq1 dJx4a65c_add_9ea2d_17 ?_
  refine a_callV cx 3 (sp_add_more hq1 (by rw [va_up_ne _ _ hne.symm]; exact ha) h0 h10 (by rw [va_up_ne _ _ hnr]; exact hv) hca hw hnr) hq1 rfl ml_Jx4a65c_131 im_Jx4a65c_add_72be8 se_Jx4a65c_add_72be8 ini_Jx4a65c cd_Jx4a65c_add_72be8 rfl rfl (by decide +kernel) rfl rfl ⟨(Nat.le_of_ble_eq_true rfl), (Nat.le_of_ble_eq_true rfl)⟩ (Nat.le_of_ble_eq_true rfl) dJx4a65c_add_9ea2d_20 ⟨(Nat.le_of_ble_eq_true rfl), (Nat.le_of_ble_eq_true rfl)⟩ (fun _ _ _ h => h.elim) (fun v9 ad9 τ9 hP => ?_)
  obtain ⟨rfl, h2, h3⟩ := hP
  replace h2 := h2.symm
  subst h2
  replace h3 := h3.symm
  subst h3
  refine a_iconst cx (v := 1) dJx4a65c_add_9ea2d_23 (by decide) ?_
  exact a_zret cx hr dJx4a65c_add_9ea2d_24 (by first | rfl | decide) (Nat.le_of_ble_eq_true rfl) (Nat.le_of_ble_eq_true rfl) ⟨rfl, rfl, by rw [up_com _ _ _ hne, up_up]⟩
end
section
theorem ob_cong {g : GW} {ad ad' : AD} {z x : Nat} {w : Nat → Int32} (hz : z = 2 ∨ z = 4 ∨ z = 12 ∨ z = 22) (h : ∀ y, y ≠ z → ad' y = ad y) (hx : x < 84) (hl : x + 1 = z → w 1 = 0) : ob g ad' x w = ob g ad x w := by
  have e1 : ∀ i, ad' (10 + 10 * i) = ad (10 + 10 * i) := fun i => h _ (by omega)
  have e2 : ∀ i, ad' (40 + i) = ad (40 + i) := fun i => h _ (by omega)
  unfold ob
  by_cases h0 : x = 0
  · rw [if_pos h0, if_pos h0]; unfold offO; rw [h 1 (by omega), h 3 (by omega), h 5 (by omega), h 6 (by omega)]
  rw [if_neg h0, if_neg h0]
  by_cases h1 : x = 1 ∨ x = 3 ∨ x = 11 ∨ x = 21
  · rw [if_pos h1, if_pos h1]; unfold lisO
    by_cases hq : x + 1 = z
    · rw [if_pos (hl hq), if_pos (hl hq)]
    · rw [h _ hq]
  rw [if_neg h1, if_neg h1]
  by_cases h2 : x = 2
  · rw [if_pos h2, if_pos h2]; unfold rowO; simp only [e1]
  rw [if_neg h2, if_neg h2]
  by_cases h3 : x = 4 ∨ x = 12 ∨ x = 22
  · rw [if_pos h3, if_pos h3]; unfold rowO; simp only [e2]
  rw [if_neg h3, if_neg h3]
  by_cases h4 : x = 5 ∨ x = 6
  · rw [if_pos h4, if_pos h4]
  rw [if_neg h4, if_neg h4]
  by_cases h5 : x = 10 ∨ x = 20
  · rw [if_pos h5, if_pos h5]; unfold beO; rw [h (x + 1) (by omega), h (x + 3) (by omega), h (x + 5) (by omega), h (x + 7) (by omega)]
  rw [if_neg h5, if_neg h5]
  by_cases h6 : x = 13 ∨ x = 15 ∨ x = 23 ∨ x = 25
  · rw [if_pos h6, if_pos h6]; unfold caO; rw [h (x + 1) (by omega)]
  rw [if_neg h6, if_neg h6]
  by_cases h7 : x = 14 ∨ x = 16 ∨ x = 24 ∨ x = 26
  · rw [if_pos h7, if_pos h7]
  rw [if_neg h7, if_neg h7]
  by_cases h8 : x = 17 ∨ x = 27
  · rw [if_pos h8, if_pos h8]
  rw [if_neg h8, if_neg h8]
  by_cases h9 : x < 60
  · rw [if_pos h9, if_pos h9]; unfold ppO; rw [e1]
  rw [if_neg h9, if_neg h9]
  by_cases h10 : x = 60
  · rw [if_pos h10, if_pos h10]; unfold moO; simp (disch := omega) only [h]
  rw [if_neg h10, if_neg h10]
/-- a list that grows by x -/
def oAdd (C : ME) (r n x : Nat) : ME := va_up (va_up C (r + 1) (if n = 0 then (fun k => if k = 0 then nI x else -1) else va_up (C (r + 1)) n (nI x))) r (va_up (va_up (va_up (C r) 0 (C r 0 + 1)) 1 1) 2 (nI (n + 1)))
theorem sp_addH {l : Launch} {g : GW} {ad : AD} {τ : RH} {Lv : Nat → Bool} {C : ME} {ρ : RH} (hH : HH g ad Lv C ρ τ) {r n x ci NN : Nat} {F : Nat → Nat} {vs : List Value} {K : String} {T : u_T} (hr : r = 1 ∨ r = 3 ∨ r = 11 ∨ r = 21) (hF : ∀ (a : AD) (w : Nat → Int32), ob g a (r + 1) w = rowO g a F w) (hFx : F x ≠ r ∧ F x ≠ r + 1) (hc : cLis Lv C r n) (hn : n < 10) (hx : x < 100) (hv : τ (F x) = some (.inr (ci, vs))) (hca : Cond.castable K "java/lang/Object" ∈ BW) (hw : vwCl[ci]? = some (K, T, NN)) : Sp l g yJx4a65c_add_9ea2d (.code yJx4a65c_add_9ea2d cJx4a65c_add_9ea2d 2 (some .boolean)) (rmv 4 1 10) [.ref (ad r), .ref (ad (F x))] ad τ 1 10 (fun v ad' τ' => (∀ y, y ≠ r + 1 → ad' y = ad y) ∧ v = some (.int 1) ∧ HH g ad' (va_up Lv (r + 1) true) (oAdd C r n x) ρ τ') NoX := by
  have ho : ∀ (a : AD) (w : Nat → Int32), ob g a r w = lisO g a r w := fun a w => by rcases hr with rfl | rfl | rfl | rfl <;> rfl
  have hr84 : r + 1 < 84 := by omega
  by_cases h0 : n = 0
  · subst h0
    have hq := H_lis hH (by omega) (ho ad _) hc
    rw [if_pos rfl] at hq
    have hd : Lv (r + 1) = false := by rw [hc.2.2.2.1]; rfl
    have h2 := hH.no hr84 hd
    refine (sp_Jx4a65c_add_9ea2d (l := l) (n := 0) (f := fun _ => none) hq h2 hv hca hw hFx.1).mono (fun v a t q => ⟨q.1, q.2.1, ?_⟩) (fun _ _ _ q => q)
    obtain ⟨q1, -, rfl⟩ := q
    have k1 := hH.push (ad' := a) (r := r + 1) (w := fun k => if k = 0 then nI x else -1) (e := arQ g 10 (va_up (fun _ => none) 0 (some (a (F x))))) hr84 (fun y hy _ hne => ob_cong (z := r + 1) (by omega) q1 hy (fun e => by
      have : y = r := by omega
      subst this; rw [hc.2.1, if_pos rfl])) (by
      rw [hF]; unfold rowO
      congr 1; congr 1; congr 1; congr 1; congr 1; congr 1; congr 1
      funext k
      by_cases hk : k = 0
      · subst hk; rw [va_up_self]; show some (a (F x)) = if nI x < 0 then none else some (a (F (tn (nI x)))); rw [if_neg (nI_pos (by omega)), tn_nI (by omega)]
      · rw [va_up_ne _ _ hk]; simp only [if_neg hk]; rfl)
    have k2 := k1.set (r := r) (w := va_up (va_up (va_up (C r) 0 (C r 0 + 1)) 1 1) 2 (nI 1)) (e := liO (C r 0 + 1) (.ref (a (r + 1))) 1) (by omega) (by rw [va_up_ne _ _ (by omega)]; exact hc.2.2.1) (by rw [ho]; rfl)
    unfold oAdd
    rw [if_pos rfl]
    exact k2
  · have hpos : 0 < n := by omega
    have hd : Lv (r + 1) = true := by rw [hc.2.2.2.1]; exact decide_eq_true hpos
    have hq := H_lis1 hH (by omega) (ho ad _) hc hpos
    have ha := hH.at hr84 hd
    rw [hF] at ha
    refine (sp_addE_more (l := l) hq ha hpos hn hv hca hw hFx.1).mono (fun v a t q => ?_) (fun _ _ _ q => q)
    obtain ⟨rfl, rfl, rfl⟩ := q
    refine ⟨fun _ _ => rfl, rfl, ?_⟩
    rw [show va_up Lv (r + 1) true = Lv by rw [← hd]; exact up_self _ _]
    have k1 := hH.set (r := r + 1) (w := va_up (C (r + 1)) n (nI x)) (e := arQ g 10 (va_up (fun k => if C (r + 1) k < 0 then none else some (a (F (tn (C (r + 1) k))))) n (some (a (F x))))) hr84 hd (by
      rw [hF]; unfold rowO
      congr 1; congr 1; congr 1; congr 1; congr 1; congr 1; congr 1
      funext k
      by_cases hk : k = n
      · subst hk; rw [va_up_self, va_up_self, if_neg (nI_pos (by omega)), tn_nI (by omega)]
      · rw [va_up_ne _ _ hk, va_up_ne _ _ hk])
    have k2 := k1.set (r := r) (w := va_up (va_up (va_up (C r) 0 (C r 0 + 1)) 1 1) 2 (nI (n + 1))) (e := liO (C r 0 + 1) (.ref (a (r + 1))) (n + 1)) (by omega) hc.2.2.1 (by rw [ho]; rfl)
    unfold oAdd
    rw [if_neg h0]
    exact k2
/-- an allotment: refused, or the calendar, the place, the queue -/
def noAllot (C : ME) (b j : Nat) : Prop := C (13 + 10 * b) 2 < C (40 + j) 4 ∨ 8 ≤ cNq C b
def oAllotC (C : ME) (b j : Nat) : ME := oCal C (13 + 10 * b) (cNq C b + 1) (va_up (C (14 + 10 * b)) (cNq C b) (C (40 + j) 4)) (C (13 + 10 * b) 2 - C (40 + j) 4)
def oAllotY (C : ME) (b j : Nat) : ME := oAdd (up2 (oAllotC C b j) (40 + j) 6 (nI (cNq C b))) (11 + 10 * b) (cNq C b) j
def oAllot (C : ME) (b j : Nat) : ME := if C (13 + 10 * b) 2 < C (40 + j) 4 ∨ 8 ≤ cNq C b then C else oAllotY C b j
def lAllot (Lv : Nat → Bool) (C : ME) (b j : Nat) : Nat → Bool := if C (13 + 10 * b) 2 < C (40 + j) 4 ∨ 8 ≤ cNq C b then Lv else va_up Lv (12 + 10 * b) true
theorem oAllotC_ne {C : ME} {b j r : Nat} (h : r ≠ 13 + 10 * b) (h2 : r ≠ 14 + 10 * b) : oAllotC C b j r = C r := by
  unfold oAllotC oCal
  rw [va_up_ne _ _ h, va_up_ne _ _ (by omega)]
theorem oAllotY_ne {C : ME} {b j r : Nat} (h : r ≠ 13 + 10 * b) (h2 : r ≠ 14 + 10 * b) (h3 : r ≠ 40 + j) (h4 : r ≠ 11 + 10 * b) (h5 : r ≠ 12 + 10 * b) : oAllotY C b j r = C r := by
  unfold oAllotY oAdd up2
  rw [va_up_ne _ _ h4, va_up_ne _ _ (by omega), va_up_ne _ _ h3, oAllotC_ne h h2]
theorem oAllotY_k1 {C : ME} {b j : Nat} (hb : b < 2) : oAllotY C b j (13 + 10 * b) 1 = nI (cNq C b + 1) := by
  unfold oAllotY oAdd up2 oAllotC oCal
  rw [va_up_ne _ _ (by omega), va_up_ne _ _ (by omega), va_up_ne _ _ (by omega), va_up_self, va_up_ne _ _ (by omega), va_up_self]
theorem oAllotY_k2 {C : ME} {b j : Nat} (hb : b < 2) : oAllotY C b j (13 + 10 * b) 2 = C (13 + 10 * b) 2 - C (40 + j) 4 := by
  unfold oAllotY oAdd up2 oAllotC oCal
  rw [va_up_ne _ _ (by omega), va_up_ne _ _ (by omega), va_up_ne _ _ (by omega), va_up_self, va_up_self]
theorem oAllotY_l {C : ME} {b j : Nat} (hb : b < 2) : oAllotY C b j (14 + 10 * b) = va_up (C (14 + 10 * b)) (cNq C b) (C (40 + j) 4) := by
  unfold oAllotY oAdd up2 oAllotC oCal
  rw [va_up_ne _ _ (by omega), va_up_ne _ _ (by omega), va_up_ne _ _ (by omega), va_up_ne _ _ (by omega), show 13 + 10 * b + 1 = 14 + 10 * b by omega, va_up_self]
theorem oAllotY_p {C : ME} {b j : Nat} (hb : b < 2) : oAllotY C b j (40 + j) = va_up (C (40 + j)) 6 (nI (cNq C b)) := by
  unfold oAllotY oAdd up2
  rw [va_up_ne _ _ (by omega), va_up_ne _ _ (by omega), va_up_self, oAllotC_ne (by omega) (by omega)]
theorem oAllotY_q {C : ME} {b j : Nat} (hb : b < 2) : oAllotY C b j (11 + 10 * b) = va_up (va_up (va_up (C (11 + 10 * b)) 0 (C (11 + 10 * b) 0 + 1)) 1 1) 2 (nI (cNq C b + 1)) := by
  unfold oAllotY oAdd
  rw [va_up_self]
  unfold up2
  rw [va_up_ne _ _ (by omega), oAllotC_ne (by omega) (by omega)]
theorem oAllotY_row {C : ME} {b j : Nat} (hb : b < 2) : oAllotY C b j (12 + 10 * b) = if cNq C b = 0 then (fun k => if k = 0 then nI j else -1) else va_up (C (12 + 10 * b)) (cNq C b) (nI j) := by
  unfold oAllotY oAdd
  rw [va_up_ne _ _ (by omega), show 11 + 10 * b + 1 = 12 + 10 * b by omega, va_up_self]
  unfold up2
  rw [va_up_ne _ _ (by omega), oAllotC_ne (by omega) (by omega)]
theorem oAllotY_nq {C : ME} {b j : Nat} (hb : b < 2) (hn : cNq C b < 8) : cNq (oAllotY C b j) b = cNq C b + 1 := by
  unfold cNq
  rw [oAllotY_q hb, va_up_self, tn_nI (by have := hn; unfold cNq at this; omega)]
  rfl
theorem oAllotY_at {Lv : Nat → Bool} {C : ME} {b j : Nat} (hb : b < 2) (hc : cLis Lv C (11 + 10 * b) (cNq C b)) (hn : cNq C b < 8) (k : Nat) : oAllotY C b j (12 + 10 * b) k = if k = cNq C b then nI j else if k < cNq C b then C (12 + 10 * b) k else -1 := by
  rw [oAllotY_row hb]
  by_cases h0 : cNq C b = 0
  · rw [if_pos h0, h0]
    by_cases hk : k = 0
    · rw [if_pos hk, if_pos hk]
    · rw [if_neg hk, if_neg hk, if_neg (by omega)]
  · rw [if_neg h0]
    by_cases hk : k = cNq C b
    · rw [if_pos hk, hk, va_up_self]
    · rw [if_neg hk, va_up_ne _ _ hk]
      by_cases h2 : k < cNq C b
      · rw [if_pos h2]
      · rw [if_neg h2]
        have := hc.2.2.2.2 k (by omega) (by omega)
        rw [show 11 + 10 * b + 1 = 12 + 10 * b by omega] at this
        exact this
theorem cI_allotY {Lv : Nat → Bool} {C : ME} (hI : cI Lv C) {b j : Nat} (hb : b < cNb C) (hj : j < cNp C) (hn : cNq C b < 8) : cI (va_up Lv (12 + 10 * b) true) (oAllotY C b j) := by
  have hb2 := (cI_lin hI hb).2
  have hj8 := (cI_prp hI hj).2
  obtain ⟨h1, h2, h3, h4, h5, h6, h7, h8, h9, h10, h11, h12, h13⟩ := hI
  have ne : ∀ r, r ≠ 13 + 10 * b → r ≠ 14 + 10 * b → r ≠ 40 + j → r ≠ 11 + 10 * b → r ≠ 12 + 10 * b → oAllotY C b j r = C r := fun r a b c d e => oAllotY_ne a b c d e
  have eb : cNb (oAllotY C b j) = cNb C := by unfold cNb; rw [ne 1 (by omega) (by omega) (by omega) (by omega) (by omega)]
  have ep : cNp (oAllotY C b j) = cNp C := by unfold cNp; rw [ne 3 (by omega) (by omega) (by omega) (by omega) (by omega)]
  have lv : ∀ x, x ≠ 12 + 10 * b → va_up Lv (12 + 10 * b) true x = Lv x := fun x hx => va_up_ne _ _ hx
  have lis : ∀ r n, r ≠ 11 + 10 * b → r ≠ 12 + 10 * b → r + 1 ≠ 12 + 10 * b → r + 1 ≠ 11 + 10 * b → (r < 5 ∨ r = 11 ∨ r = 21) → cLis Lv C r n → cLis (va_up Lv (12 + 10 * b) true) (oAllotY C b j) r n := by
    intro r n a1 a2 a3 a4 a5 hc
    unfold cLis at hc ⊢
    rw [ne r (by omega) (by omega) (by omega) a1 a2, ne (r + 1) (by omega) (by omega) (by omega) a4 a3, lv r a2, lv (r + 1) a3]
    exact hc
  unfold cI
  rw [eb, ep]
  refine ⟨h1, h2, by rw [lv 0 (by omega)]; exact h3, by rw [lv 5 (by omega)]; exact h4, by rw [lv 6 (by omega)]; exact h5, lis 1 _ (by omega) (by omega) (by omega) (by omega) (by omega) h6, lis 3 _ (by omega) (by omega) (by omega) (by omega) (by omega) h7, fun i hi => ?_, fun i hi => ?_, fun b' hb' => ?_, fun b' k hb' hb2' hk => ?_, fun j' hj' => ?_, fun j' hj' hj2' => ?_⟩
  · rw [ne 2 (by omega) (by omega) (by omega) (by omega) (by omega)]; exact h8 i hi
  · rw [ne 4 (by omega) (by omega) (by omega) (by omega) (by omega)]; exact h9 i hi
  · obtain ⟨a1, a2, a3, a4, a5, a6, a7, a8, a9, a10, a11, a12⟩ := h10 b' hb'
    have hb2' : b' < 2 := by omega
    unfold cLin
    rw [ep, lv _ (by omega), lv _ (by omega), lv _ (by omega), lv _ (by omega), lv _ (by omega), lv _ (by omega), ne (15 + 10 * b') (by omega) (by omega) (by omega) (by omega) (by omega), ne (10 + 10 * b') (by omega) (by omega) (by omega) (by omega) (by omega)]
    by_cases hbb : b' = b
    · subst hbb
      rw [oAllotY_nq hb2' hn, oAllotY_k1 hb2']
      refine ⟨a1, a2, a3, a4, a5, a6, by omega, ?_, rfl, a10, a11, fun k hk => ?_⟩
      · refine ⟨by rw [oAllotY_q hb2', va_up_self], by rw [oAllotY_q hb2', va_up_ne _ _ (by decide), va_up_self, if_neg (by omega)], by rw [lv _ (by omega)]; exact a8.2.2.1, by rw [show 11 + 10 * b' + 1 = 12 + 10 * b' by omega, va_up_self]; exact (decide_eq_true (by omega)).symm, fun k hk _ => ?_⟩
        rw [show 11 + 10 * b' + 1 = 12 + 10 * b' by omega, oAllotY_at hb2' a8 hn, if_neg (by omega), if_neg (by omega)]
      · rw [oAllotY_at hb2' a8 hn]
        by_cases hk2 : k = cNq C b'
        · rw [if_pos hk2]; exact ⟨j, hj, rfl⟩
        · rw [if_neg hk2, if_pos (by omega)]; exact a12 k (by omega)
    · have en : cNq (oAllotY C b j) b' = cNq C b' := by unfold cNq; rw [ne _ (by omega) (by omega) (by omega) (by omega) (by omega)]
      rw [en, ne (13 + 10 * b') (by omega) (by omega) (by omega) (by omega) (by omega), ne (12 + 10 * b') (by omega) (by omega) (by omega) (by omega) (by omega)]
      exact ⟨a1, a2, a3, a4, a5, a6, a7, lis _ _ (by omega) (by omega) (by omega) (by omega) (by omega) a8, a9, a10, a11, a12⟩
  · rw [lv _ (by omega)]; exact h11 b' k hb' hb2' hk
  · have hj8' : j' < 8 := by omega
    rw [lv _ (by omega)]
    by_cases hjj : j' = j
    · subst hjj
      rw [oAllotY_p hb2, va_up_ne _ _ (by decide), va_up_ne _ _ (by decide)]
      exact h12 j' hj'
    · rw [ne (40 + j') (by omega) (by omega) (by omega) (by omega) (by omega)]
      exact h12 j' hj'
  · rw [lv _ (by omega)]; exact h13 j' hj' hj2'
theorem cI_allot {Lv : Nat → Bool} {C : ME} (hI : cI Lv C) {b j : Nat} (hb : b < cNb C) (hj : j < cNp C) : cI (lAllot Lv C b j) (oAllot C b j) := by
  unfold lAllot oAllot
  by_cases h : C (13 + 10 * b) 2 < C (40 + j) 4 ∨ 8 ≤ cNq C b
  · rw [if_pos h, if_pos h]; exact hI
  · rw [if_neg h, if_neg h]; exact cI_allotY hI hb hj (by omega)
theorem nI_ne1 {n : Nat} (h : n < 2 ^ 31) : nI n ≠ -1 := fun q => absurd (show nI n < 0 by rw [q]; decide) (nI_pos h)
set_option maxHeartbeats 4000000 in
set_option maxRecDepth 100000 in
/-- allot(next) -/
theorem sp_X0_allot {l : Launch} {g : GW} {ad : AD} {τ : RH} {Lv : Nat → Bool} {C : ME} {ρ : RH} {b j : Nat} (hH : HH g ad Lv C ρ τ) (hI : cI Lv C) (hb : b < cNb C) (hj : j < cNp C) : Sp l g yX0_allot (.code yX0_allot cX0_allot 3 none) (rmv 5 1 10) [.ref (ad (10 + 10 * b)), .ref (ad (40 + j))] ad τ 1 10 (fun v ad' τ' => (∀ y, y ≠ 12 + 10 * b → ad' y = ad y) ∧ v = none ∧ HH g ad' (lAllot Lv C b j) (oAllot C b j) ρ τ') (NoX) := by
  refine Sp.of 1 [some (.ref (ad (10 + 10 * b))), some (.ref (ad (40 + j))), none] (by decide +kernel) (Nat.le_of_ble_eq_true rfl) rfl ?_
  intro p e s m args below meth c A cx hout hr hnm
  have hB := H_beam hH hI hb
  obtain ⟨hL, hb2⟩ := cI_lin hI hb
  have hP := H_prop hH hI hj
  obtain ⟨hLj, hj8⟩ := cI_prp hI hj
  have hK := H_kept' hH hI hb
  by_cases hk : C (13 + 10 * b) 2 < C (40 + j) 4 ∨ 8 ≤ cNq C b
  · unfold lAllot oAllot
    rw [if_pos hk, if_pos hk]
    have hsp := sp_X1_allot (l := l) (w := C (40 + j) 4) hK.1 hK.2.1 hK.2.2
    rw [kA_no hk] at hsp
    dsimp only at hsp
    rw [up_some hK.2.1, up_some hK.1] at hsp
    refine a_aload_n cx dX0_allot_0 rfl rfl ?_
    refine gf_X0_21 cx hB dX0_allot_1 ?_
    refine a_aload_n cx dX0_allot_4 rfl rfl ?_
    refine gf_X0_59 cx hP dX0_allot_5 ?_
    refine a_callV cx 1 (hsp) hK.1 rfl ml_X0_64 im_X1_allot se_X1_allot ini_X1 cd_X1_allot rfl rfl (by decide +kernel) rfl rfl ⟨(Nat.le_of_ble_eq_true rfl), (Nat.le_of_ble_eq_true rfl)⟩ (Nat.le_of_ble_eq_true rfl) dX0_allot_8 ⟨(Nat.le_of_ble_eq_true rfl), (Nat.le_of_ble_eq_true rfl)⟩ (fun _ _ _ h => h.elim) (fun v9 ad9 τ9 hP => ?_)
    obtain ⟨rfl, h2, h3⟩ := hP
    replace h2 := h2.symm
    subst h2
    replace h3 := h3.symm
    subst h3
    refine a_istore_n2 cx dX0_allot_11 rfl (by decide) (by intro w h; first | (cases h; rfl) | (cases h; assumption) | (cases h; done)) ?_
    refine a_iload_n cx dX0_allot_12 rfl rfl ?_
    refine a_iconst cx (v := -1) dX0_allot_13 (by decide) ?_
    refine a_icmp_eq cx (tgt := 31) dX0_allot_14 (by decide) (fun c_14 => ?_) (fun c_14 => absurd rfl c_14)
    exact a_vret cx hr dX0_allot_31 (Nat.le_of_ble_eq_true rfl) (Nat.le_of_ble_eq_true rfl) ⟨fun _ _ => rfl, rfl, hH⟩
  · unfold lAllot oAllot
    rw [if_neg hk, if_neg hk]
    have hsp := sp_X1_allot (l := l) (w := C (40 + j) 4) hK.1 hK.2.1 hK.2.2
    rw [kA_yes (fun q => hk (Or.inl q)) (fun q => hk (Or.inr q))] at hsp
    dsimp only at hsp
    refine a_aload_n cx dX0_allot_0 rfl rfl ?_
    refine gf_X0_21 cx hB dX0_allot_1 ?_
    refine a_aload_n cx dX0_allot_4 rfl rfl ?_
    refine gf_X0_59 cx hP dX0_allot_5 ?_
    refine a_callV cx 1 (hsp) hK.1 rfl ml_X0_64 im_X1_allot se_X1_allot ini_X1 cd_X1_allot rfl rfl (by decide +kernel) rfl rfl ⟨(Nat.le_of_ble_eq_true rfl), (Nat.le_of_ble_eq_true rfl)⟩ (Nat.le_of_ble_eq_true rfl) dX0_allot_8 ⟨(Nat.le_of_ble_eq_true rfl), (Nat.le_of_ble_eq_true rfl)⟩ (fun _ _ _ h => h.elim) (fun v9 ad9 τ9 hP9 => ?_)
    obtain ⟨rfl, h2, h3⟩ := hP9
    replace h2 := h2.symm
    subst h2
    replace h3 := h3.symm
    subst h3
    have hH2 : HH g ad Lv (oAllotC C b j) ρ _ := hH.cal hb2 hL.2.1 hL.2.2.1
    have hE2 : oAllotC C b j (40 + j) = C (40 + j) := oAllotC_ne (by omega) (by omega)
    have hP2 : _ = some (ppO ad (C (40 + j))) := (hH2.at (r := 40 + j) (by omega) hLj.1).trans (by rw [ob_prop hj8, hE2])
    have hB2 : _ = some (beO ad (10 + 10 * b) (C (10 + 10 * b))) := (hH2.at (r := 10 + 10 * b) (by omega) hL.1).trans (by rw [ob_beam hb2, oAllotC_ne (by omega) (by omega)])
    refine a_istore_n2 cx dX0_allot_11 rfl (by decide) (by intro w h; first | (cases h; rfl) | (cases h; assumption) | (cases h; done)) ?_
    refine a_iload_n cx dX0_allot_12 rfl rfl ?_
    refine a_iconst cx (v := -1) dX0_allot_13 (by decide) ?_
    refine a_icmp_eq cx (tgt := 31) dX0_allot_14 (by decide) (fun c_14 => absurd c_14 (nI_ne1 (by omega))) (fun c_14 => ?_)
    refine a_aload_n cx dX0_allot_17 rfl rfl ?_
    refine a_iload_n cx dX0_allot_18 rfl rfl ?_
    have hP := hP2
    refine pf_X0_68 cx hP dX0_allot_19 ?_
    have hH3 := hH2.prop (j := j) hj8 hLj.1 (w := va_up (C (40 + j)) 6 (nI (cNq C b))) (e := _) rfl
    rw [show va_up (oAllotC C b j) (40 + j) (va_up (C (40 + j)) 6 (nI (cNq C b))) = up2 (oAllotC C b j) (40 + j) 6 (nI (cNq C b)) by unfold up2; rw [hE2]] at hH3
    have hr11 : up2 (oAllotC C b j) (40 + j) 6 (nI (cNq C b)) (11 + 10 * b) = C (11 + 10 * b) := by unfold up2; rw [va_up_ne _ _ (by omega), oAllotC_ne (by omega) (by omega)]
    have hr12 : up2 (oAllotC C b j) (40 + j) 6 (nI (cNq C b)) (11 + 10 * b + 1) = C (11 + 10 * b + 1) := by unfold up2; rw [va_up_ne _ _ (by omega), oAllotC_ne (by omega) (by omega)]
    have hB : _ = some (beO ad (10 + 10 * b) (C (10 + 10 * b))) := (hH3.at (r := 10 + 10 * b) (by omega) hL.1).trans (by rw [ob_beam hb2]; unfold up2; rw [va_up_ne _ _ (by omega), oAllotC_ne (by omega) (by omega)])
    have hcl : cLis Lv (up2 (oAllotC C b j) (40 + j) 6 (nI (cNq C b))) (11 + 10 * b) (cNq C b) := by unfold cLis; rw [hr11, hr12]; exact hL.2.2.2.2.2.2.2.1
    have hP3 : _ = some (ppO ad _) := (hH3.at (r := 40 + j) (by omega) hLj.1).trans (by rw [ob_prop hj8])
    have hsp2 := sp_addH (l := l) (n := cNq C b) (x := j) (F := fun i => 40 + i) hH3 (r := 11 + 10 * b) (by omega) (fun a w => by rw [show 11 + 10 * b + 1 = 12 + 10 * b by omega, ob_qrow hb2]) (by omega) hcl (by omega) (by omega) hP3 ca_BeamOffice_Proposal_Object rfl
    have hQ := H_lis hH3 (by omega) (ob_queue hb2) hcl
    rw [show 11 + 10 * b + 1 = 12 + 10 * b by omega, show Value.ref (ad (11 + 10 * b)) = .ref (ad (10 + 10 * b + 1)) by rw [show 11 + 10 * b = 10 + 10 * b + 1 by omega]] at hsp2
    rw [show 11 + 10 * b = 10 + 10 * b + 1 by omega] at hQ
    refine a_aload_n cx dX0_allot_22 rfl rfl ?_
    refine gf_X0_12 cx hB dX0_allot_23 ?_
    refine a_aload_n cx dX0_allot_26 rfl rfl ?_
    refine a_callV cx 1 (hsp2) hQ rfl ml_X0_71 im_Jx4a65c_add_9ea2d se_Jx4a65c_add_9ea2d ini_Jx4a65c cd_Jx4a65c_add_9ea2d rfl rfl (by decide +kernel) rfl rfl ⟨(Nat.le_of_ble_eq_true rfl), (Nat.le_of_ble_eq_true rfl)⟩ (Nat.le_of_ble_eq_true rfl) dX0_allot_27 ⟨(Nat.le_of_ble_eq_true rfl), (Nat.le_of_ble_eq_true rfl)⟩ (fun _ _ _ h => h.elim) (fun v9 ad9 τ9 hP9 => ?_)
    obtain ⟨had, rfl, hH4⟩ := hP9
    refine a_pop cx dX0_allot_30 rfl ?_
    exact a_vret cx hr dX0_allot_31 (Nat.le_of_ble_eq_true rfl) (Nat.le_of_ble_eq_true rfl) ⟨had, rfl, hH4⟩
end
section
theorem zz_look : True := by
  have h1 := @a_catch
  have h2 := @a_throw
  have h3 := @a_callIN
  trivial
end
