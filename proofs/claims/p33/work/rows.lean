section
-- ===== PART A: goes FIRST, ahead of the names: the tables' words, and 'selects' of the private methods out of them =====
/-- a private method of a class that the tables say can be made, by its rows of tables_1 -/
def lw_okq (q : MethodName × Nat) : Prop := (q.1.cls ≠ "java/lang/invoke/MethodHandle" ∧ q.1.cls ≠ "java/lang/invoke/VarHandle") ∧ Cond.instantiable q.1.cls q.2 ∈ tables_1 ∧ Cond.privateMethod q.1 ∈ tables_1 ∧ Cond.instanceMethod q.1 ∈ tables_1
theorem lw_p0 : lw_okq (⟨"StruckCounts$Store", "put", "(ILStruckCounts$Board;)V"⟩, 5) := ⟨⟨by decide +kernel, by decide +kernel⟩, List.mem_of_getElem? (i := 108) (by decide +kernel), List.mem_of_getElem? (i := 170) (by decide +kernel), List.mem_of_getElem? (i := 171) (by decide +kernel)⟩
theorem lw_p1 : lw_okq (⟨"java/lang/Throwable", "fillInStackTrace", "(I)Ljava/lang/Throwable;"⟩, 6) := ⟨⟨by decide +kernel, by decide +kernel⟩, List.mem_of_getElem? (i := 234) (by decide +kernel), List.mem_of_getElem? (i := 232) (by decide +kernel), List.mem_of_getElem? (i := 233) (by decide +kernel)⟩
theorem lw_p2 : lw_okq (⟨"StruckCounts", "checkNextPrime", "()V"⟩, 5) := ⟨⟨by decide +kernel, by decide +kernel⟩, List.mem_of_getElem? (i := 16) (by decide +kernel), List.mem_of_getElem? (i := 273) (by decide +kernel), List.mem_of_getElem? (i := 274) (by decide +kernel)⟩
theorem lw_p3 : lw_okq (⟨"StruckCounts$Tally", "fill", "(II)V"⟩, 5) := ⟨⟨by decide +kernel, by decide +kernel⟩, List.mem_of_getElem? (i := 53) (by decide +kernel), List.mem_of_getElem? (i := 314) (by decide +kernel), List.mem_of_getElem? (i := 315) (by decide +kernel)⟩
theorem lw_p4 : lw_okq (⟨"StruckCounts$Tally", "has", "(I)Z"⟩, 5) := ⟨⟨by decide +kernel, by decide +kernel⟩, List.mem_of_getElem? (i := 53) (by decide +kernel), List.mem_of_getElem? (i := 318) (by decide +kernel), List.mem_of_getElem? (i := 319) (by decide +kernel)⟩
theorem lw_p5 : lw_okq (⟨"StruckCounts$Store", "show", "(ILStruckCounts$Board;)V"⟩, 5) := ⟨⟨by decide +kernel, by decide +kernel⟩, List.mem_of_getElem? (i := 108) (by decide +kernel), List.mem_of_getElem? (i := 388) (by decide +kernel), List.mem_of_getElem? (i := 389) (by decide +kernel)⟩
theorem lw_p6 : lw_okq (⟨"StruckCounts", "checkQuotient", "(I)V"⟩, 5) := ⟨⟨by decide +kernel, by decide +kernel⟩, List.mem_of_getElem? (i := 16) (by decide +kernel), List.mem_of_getElem? (i := 418) (by decide +kernel), List.mem_of_getElem? (i := 419) (by decide +kernel)⟩
def lw_privs_1 : List (MethodName × Nat) := [(⟨"StruckCounts$Store", "put", "(ILStruckCounts$Board;)V"⟩, 5), (⟨"java/lang/Throwable", "fillInStackTrace", "(I)Ljava/lang/Throwable;"⟩, 6), (⟨"StruckCounts", "checkNextPrime", "()V"⟩, 5), (⟨"StruckCounts$Tally", "fill", "(II)V"⟩, 5), (⟨"StruckCounts$Tally", "has", "(I)Z"⟩, 5), (⟨"StruckCounts$Store", "show", "(ILStruckCounts$Board;)V"⟩, 5), (⟨"StruckCounts", "checkQuotient", "(I)V"⟩, 5)]
theorem lw_r1 : ∀ q ∈ lw_privs_1, lw_okq q := List.forall_mem_cons.mpr ⟨lw_p0, List.forall_mem_cons.mpr ⟨lw_p1, List.forall_mem_cons.mpr ⟨lw_p2, List.forall_mem_cons.mpr ⟨lw_p3, List.forall_mem_cons.mpr ⟨lw_p4, List.forall_mem_cons.mpr ⟨lw_p5, List.forall_mem_cons.mpr ⟨lw_p6, fun _ h => absurd h List.not_mem_nil⟩⟩⟩⟩⟩⟩⟩
def lw_privs : List (MethodName × Nat) := lw_privs_1
def lw_tbl : List Cond := k2_sels lw_privs ++ tables_1
theorem lw_privs_ok : ∀ q ∈ lw_privs, lw_okq q := lw_r1
-- ===== end of PART A; then your names; then what follows =====
end
section
/-! ===== BEGIN words of one list among another's, by their places ===== -/
theorem goodIn_r {big : List Cond} (ws : List Cond) (ps : List Nat) (hp : ws = ps.filterMap (fun i => big[i]?)) (h : ws.all goodWord = true) : GoodIn big ws := by
  intro w hw
  have h1 := List.all_eq_true.mp h w hw
  rw [hp] at hw
  obtain ⟨i, -, hi⟩ := List.mem_filterMap.mp hw
  have hm : w ∈ big := by first | exact List.mem_of_getElem? hi | exact List.getElem?_mem hi
  exact ⟨hm, good_of_word h1⟩
theorem goodIn_app {big a b : List Cond} (ha : GoodIn big a) (hb : GoodIn big b) : GoodIn big (a ++ b) := fun w h => (List.mem_append.mp h).elim (ha w) (hb w)
theorem goodIn_ca {big a b : List Cond} {c : Cond} (ha : GoodIn big (c :: a)) (hb : GoodIn big b) : GoodIn big (c :: (a ++ b)) := fun w h => (List.mem_cons.mp h).elim (fun e => ha w (List.mem_cons.mpr (Or.inl e))) (fun h => (List.mem_append.mp h).elim (fun h => ha w (List.mem_cons.mpr (Or.inr h))) (hb w))
theorem goodIn_sub {big ws : List Cond} (hm : ∀ w ∈ ws, w ∈ big) (h : ws.all goodWord = true) : GoodIn big ws := fun w hw => ⟨hm w hw, good_of_word (List.all_eq_true.mp h w hw)⟩
/-! ===== END ===== -/

/-! ===== BEGIN exceptions that leave a method, and their catching by the caller (launches without stack traces) ===== -/
section VXA
/-! The laws vx_back, vx_callV, vx_callS, vx_callSW, vx_throw0, vx_throwS follow proofs of the library, with one case more: JvmDerived/Free/Laws.lean (Back.of_free), Shelf42/LK1.lean (callV, callS), Shelf/KitTraced.lean (throwNew0V, throwNewS). -/
/-- where a method has thrown q: the class by its name, the cell, what was written, the world -/
def vx_T (XC : String → State → State → Prop) (st : State) (q : Addr) (t : State) (mc ms : Nat) (free : Addr → Prop) : Prop :=
  ∃ (E : String) (ce : Cell) (L : List Loc), XC E st t ∧ t.heap[q]? = some ce ∧ ce.vm = .none ∧ st.vm.findClass E = some ce.cls ∧ st.WarmedH t.vm ∧ st.sameButNew ({ t with vm := st.vm } : State) L mc ms ∧ ∀ z ∈ L, free z.base
def vx_Q (Qc : Array Value → State → Outcome → State → Prop) (XC : String → State → State → Prop) (mc ms : Nat) (free : Addr → Prop) : Array Value → State → Outcome → State → Prop := fun a st o t =>
  (Qc a st o t ∧ ∃ L, FrameEnd st o t L mc ms ∧ ∀ q ∈ L, free q.base) ∨ ∃ q, o = .threw q ∧ vx_T XC st q t mc ms free
/-- a callee that returns or throws -/
def vx_Met (l : Launch) (y : MethodName) (ws : List Cond) (rm : Room) (Pc : Array Value → State → Prop) (Qc : Array Value → State → Outcome → State → Prop) (XC : String → State → State → Prop) (mc ms : Nat) (free : Addr → Prop) : Prop :=
  MetFree l y (headSpec ws rm) Pc (fun _ _ _ _ _ => True) (vx_Q Qc XC mc ms free)
def vx_Post (XC : String → State → State → Prop) (mc ms : Nat) (free : Addr → Prop) : Pt → Array Value → Addr → Pt → Prop := fun A a q B =>
  ∃ (g : JFrame) (mk : MethodId) (t : State) (L : List Loc) (E : String) (ce : Cell), B.U.heap = t.heap ∧ B.U.vm = t.vm ∧ XC E (A.U.calling g mk a) t ∧ t.heap[q]? = some ce ∧ ce.vm = .none ∧ A.U.vm.findClass E = some ce.cls ∧ B.locs = A.locs ++ L ∧ (∀ z ∈ L, free z.base) ∧ B.cells = A.cells + mc ∧ B.slots = A.slots + ms
def vx_Back (l : Launch) (R : Room) (p : Program) (e : Env) (below : List Frame) (s : State) (sargs : Array Value) (y : MethodName) (len W9 : Nat)
    (Pre : Pt → Array Value → Prop) (Post : Pt → Array Value → Option Value → Pt → Prop) (PostX : Pt → Array Value → Addr → Pt → Prop) : Prop :=
  ∀ (m : MethodId) (meth : Method) (c : Code) (A : Pt) (g : JFrame) (ig : Instr) (mk : MethodId) (a : Array Value),
    Stand p l e R s m sargs below meth c A.U A.locs A.cells A.slots → g.method = m → g.locals.size = c.maxLocals → decode c.code g.pc = .ok (ig, len) →
    2 * g.monitorRoom + (g.stack.map fun v => v.category).sum ≤ W9 → A.U.methodNamed? y = some mk → Pre A a →
    (∃ (v : Option Value) (B : Pt), Stand p l e R s m sargs below meth c B.U B.locs B.cells B.slots ∧ Post A a v B ∧
      Steps p.tables e below (doInvoke e (A.U.setTop g) [] mk a).1 (B.U.setTop { g with pc := g.pc + len, stack := v.toList ++ g.stack })) ∨
    (∃ (q : Addr) (B : Pt), Stand p l e R s m sargs below meth c B.U B.locs B.cells B.slots ∧ PostX A a q B ∧
      Steps p.tables e below (doInvoke e (A.U.setTop g) [] mk a).1 ((B.U.setTop g).pushFrame (.throwing q)))
section Payer
variable {l : Launch} {R : Room} {p : Program} {e : Env} {below : List Frame} {s : State} {sargs : Array Value} {y : MethodName} {len W9 : Nat}
theorem vx_back {ws : List Cond} {rm : Room} {Pc : Array Value → State → Prop} {Qc : Array Value → State → Outcome → State → Prop} {XC : String → State → State → Prop} {mc ms : Nat} {free : Addr → Prop} {bytes : ByteArray} {maxL : Nat} {ret : Option FieldType}
    (hM : vx_Met l y ws rm Pc Qc XC mc ms free) (hblind : FrameBlind Pc) (hrc : rm.cells = mc) (hrs : rm.slots = ms)
    (hframes : rm.frames + 1 ≤ R.frames) (hlocals : W9 + (maxL + 11) + rm.locals ≤ R.locals)
    (hws : ∀ w ∈ ws, ∀ a' U, s.WarmedH U.vm → w.before a' U = true) (hcode : Cond.code y bytes maxL ret ∈ ws) (hinit : ∀ a' U, s.WarmedH U.vm → (Cond.initialized y.cls).before a' U = true) :
    vx_Back l R p e below s sargs y len W9 (PreOf R mc ms Pc) (PostOf Qc mc ms free) (vx_Post XC mc ms free) := by
  intro m meth c A g ig mk a X hg hsize hdg hW hn hp
  have h1 : (headSpec ws rm).pre.before a A.U = true := atoms_intro fun w hw => hws w hw _ _ X.warmed
  have h2 : (Cond.code y bytes maxL ret).before a A.U = true := hws _ hcode _ _ X.warmed
  have h3 : (Cond.initialized y.cls).before a A.U = true := hinit _ _ X.warmed
  have h4 : A.cells + (headSpec ws rm).room.cells ≤ R.cells := by rw [show (headSpec ws rm).room.cells = mc from hrc]; exact hp.1
  have h5 : A.slots + (headSpec ws rm).room.slots ≤ R.slots := by rw [show (headSpec ws rm).room.slots = ms from hrs]; exact hp.2.1
  have hPc : Pc a (A.U.calling g mk a) := hblind _ _ _ _ hp.2.2
  obtain ⟨U, Ls, c0, s0⟩ := A
  dsimp only [Pt.U, Pt.locs, Pt.cells, Pt.slots] at h1 h2 h3 h4 h5 X hn hPc ⊢
  obtain ⟨methY, cY, hmY, hcY, -, hlY, -, -, -, -⟩ := Cond.code_spec hn h2
  obtain ⟨kY, hkY, -⟩ := className_of_methodNamed hn
  have hinitY : kY.init = .initialized := Cond.initialized_spec (findClass_of_methodNamed hn) hkY h3
  have h : At U g.method c below := by rw [hg]; exact X.here
  have hlocals9 : W9 + (maxL + 11) + (headSpec ws rm).room.locals ≤ R.locals := hlocals
  have happ : (headSpec ws rm).appliesLoose y e.platform (U.calling g mk a) = true :=
    Spec.appliesLoose_calling (g := g) h hdg hn hkY hinitY
      (X.room_calling (g := g) (R' := (headSpec ws rm).room) hsize hmY hcY hframes (by rw [hlY]; omega) h4 h5) h1
  obtain ⟨mid, hmid⟩ := h.above
  have hfr : (U.setTop g).frames = (.java g :: mid) ++ below := by rw [State.frames_setTop' g h.top, hmid]; rfl
  obtain ⟨o, s₂, hsteps, -, hend, hq⟩ := Steps.callFree hM p X.admits X.cas X.clock (acts := []) hfr happ hPc trivial
  have hq' : vx_Q Qc XC mc ms free a (U.calling g mk a) o s₂ := hq
  rw [State.frames_setTop' g h.top] at hend
  obtain ⟨g₀, hg0⟩ := Option.isSome_iff_exists.mp h.top
  obtain ⟨r, hr⟩ := State.topJava?_eq_some.mp hg0
  have hr' : (({ U with heap := s₂.heap, slotsUsed := s₂.slotsUsed } : State).setVm s₂.vm).frames = .java g₀ :: r := hr
  rcases hq' with ⟨hqc, L, hfe, hL⟩ | ⟨q, rfl, E, ce, L, hx, hce, hcv, hcl, hW₂, hsm, hL⟩
  · obtain ⟨⟨v, rfl⟩, hW₂, e2, q2, q3, q4, q5, q6⟩ := id hfe
    have e3 : s₂ = ({ (U.calling g mk a).setFrames s₂.frames with heap := s₂.heap, slotsUsed := s₂.slotsUsed } : State).setVm s₂.vm := by
      have : s₂ = ({ s₂ with vm := (U.calling g mk a).vm } : State).setVm s₂.vm := rfl
      rw [e2] at this
      exact this
    obtain ⟨c₂, i₂, len₂, hc₂, hd₂, hf₂⟩ := hend
    have hW' : U.WarmedH s₂.vm := hW₂
    have hcc : c₂ = c := by
      have h1 : s₂.code? g.method = U.code? g.method := by
        rw [State.code?_eq, State.code?_eq, hW'.alike.method?]
      exact Option.some.inj (hc₂.symm.trans (h1.trans h.code))
    subst hcc
    have hlen : len₂ = len := by rw [hdg] at hd₂; cases hd₂; rfl
    subst hlen
    have hs₂ : s₂ = (({ U with heap := s₂.heap, slotsUsed := s₂.slotsUsed } : State).setVm s₂.vm).setTop { g with pc := g.pc + len₂, stack := v.toList ++ g.stack } := by
      refine e3.trans ?_
      rw [hf₂, State.calling_eq h.top, State.setFrames_setFrames, State.setTop_of_frames _ hr', hr]
      rfl
    have hsame : U.sameButNew ({ U with heap := s₂.heap, slotsUsed := s₂.slotsUsed } : State) L mc ms := by
      refine ⟨?_, q2, q3, q4, q5, q6⟩
      obtain ⟨t, ht, -⟩ := State.frames_cons hr
      show ({ U with heap := s₂.heap, slotsUsed := s₂.slotsUsed } : State) = { U.setFrames U.frames with heap := s₂.heap, slotsUsed := s₂.slotsUsed }
      rw [State.setFrames_self ht]
    subst hg
    refine Or.inl ⟨v, ⟨(({ U with heap := s₂.heap, slotsUsed := s₂.slotsUsed } : State).setVm s₂.vm), Ls ++ L, c0 + mc, s0 + ms⟩,
      ⟨X.admits, X.cas, X.clock, X.frames, X.room, X.hears, X.method, X.code, (X.here.setHeapUsed s₂.heap s₂.slotsUsed).setVm hW'.alike, X.tail, State.WarmedH.trans X.warmed hW', X.limits, X.bytes, X.same.trans (hsame.setVm s.vm)⟩,
      ⟨g, mk, s₂, L, rfl, rfl, hqc, rfl, hL, rfl, rfl⟩, ?_⟩
    show Steps p.tables e below _ ((({ U with heap := s₂.heap, slotsUsed := s₂.slotsUsed } : State).setVm s₂.vm).setTop { g with pc := g.pc + len₂, stack := v.toList ++ g.stack })
    rw [← hs₂]
    exact hsteps
  · obtain ⟨e2, q2, q3, q4, q5, q6⟩ := id hsm
    have e3 : s₂ = ({ (U.calling g mk a).setFrames s₂.frames with heap := s₂.heap, slotsUsed := s₂.slotsUsed } : State).setVm s₂.vm := by
      have : s₂ = ({ s₂ with vm := (U.calling g mk a).vm } : State).setVm s₂.vm := rfl
      rw [e2] at this
      exact this
    have hf₂ : s₂.frames = .throwing q :: .java g :: U.frames.tail := hend
    have hW' : U.WarmedH s₂.vm := hW₂
    have hs₂ : s₂ = ((({ U with heap := s₂.heap, slotsUsed := s₂.slotsUsed } : State).setVm s₂.vm).setTop g).pushFrame (.throwing q) := by
      refine e3.trans ?_
      rw [hf₂, State.calling_eq h.top, State.setFrames_setFrames, State.pushFrame, State.frames_setTop _ hr', State.setTop_of_frames _ hr', State.setFrames_setFrames, hr]
      rfl
    have hsame : U.sameButNew ({ U with heap := s₂.heap, slotsUsed := s₂.slotsUsed } : State) L mc ms := by
      refine ⟨?_, q2, q3, q4, q5, q6⟩
      obtain ⟨t, ht, -⟩ := State.frames_cons hr
      show ({ U with heap := s₂.heap, slotsUsed := s₂.slotsUsed } : State) = { U.setFrames U.frames with heap := s₂.heap, slotsUsed := s₂.slotsUsed }
      rw [State.setFrames_self ht]
    subst hg
    refine Or.inr ⟨q, ⟨(({ U with heap := s₂.heap, slotsUsed := s₂.slotsUsed } : State).setVm s₂.vm), Ls ++ L, c0 + mc, s0 + ms⟩,
      ⟨X.admits, X.cas, X.clock, X.frames, X.room, X.hears, X.method, X.code, (X.here.setHeapUsed s₂.heap s₂.slotsUsed).setVm hW'.alike, X.tail, State.WarmedH.trans X.warmed hW', X.limits, X.bytes, X.same.trans (hsame.setVm s.vm)⟩,
      ⟨g, mk, s₂, L, E, ce, rfl, rfl, hx, hce, hcv, hcl, rfl, hL, rfl, rfl⟩, ?_⟩
    show Steps p.tables e below _ (((({ U with heap := s₂.heap, slotsUsed := s₂.slotsUsed } : State).setVm s₂.vm).setTop g).pushFrame (.throwing q))
    rw [← hs₂]
    exact hsteps
end Payer
section Calls
variable {p : Program} {l : Launch} {e : Env} {R : Room} {s : State} {m : MethodId} {args : Array Value} {below : List Frame} {meth : Method} {c : Code} {T : State} {locs : List Loc} {cells slots : Nat}
theorem vx_callV (X : Stand p l e R s m args below meth c T locs cells slots) (hexec : p.tables.exec = Jvm.exec) {own C : String} {index : Nat} {y : MethodName} {bytes : ByteArray} {maxL : Nat} {ret : Option FieldType}
    (hown : s.vm.findClass own = some m.cls) (hlink : (Cond.methodLink own index y).before args s = true) (hinst : (Cond.instanceMethod y).before args s = true) (hsel : (Cond.selects C y y).before args s = true)
    (hcode : (Cond.code y bytes maxL ret).before args s = true) (hy : y.cls ≠ "java/lang/invoke/MethodHandle" ∧ y.cls ≠ "java/lang/invoke/VarHandle")
    {W9 : Nat} {Pre : Pt → Array Value → Prop} {Post : Pt → Array Value → Option Value → Pt → Prop} {PostX : Pt → Array Value → Addr → Pt → Prop} (hK : vx_Back l R p e below s args y 3 W9 Pre Post PostX)
    {b : Addr} {cellB : Cell} (hcell : T.heap[b]? = some cellB) (hobj : cellB.vm.isStatics = false) (hcls : s.vm.findClass C = some cellB.cls)
    {g : JFrame} (hg : g.method = m) (hsize : g.locals.size = c.maxLocals) {argsL rest : List Value} (hlen : ∀ sig, parseMethodDescriptor y.desc = some sig → argsL.length = sig.parameters.length)
    (hstack : g.stack = argsL.reverse ++ .ref b :: rest) (hW : 2 * g.monitorRoom + (rest.map fun v => v.category).sum ≤ W9) (hdg : decode c.code g.pc = .ok (.invokevirtual index, 3))
    (hpre : ∀ vm₁, s.WarmedH vm₁ → Pre ⟨T.setVm vm₁, locs, cells, slots⟩ (Value.ref b :: argsL).toArray) :
    (∃ (v : Option Value) (vm₁ : Vm) (B : Pt), s.WarmedH vm₁ ∧ Stand p l e R s m args below meth c B.U B.locs B.cells B.slots ∧ Post ⟨T.setVm vm₁, locs, cells, slots⟩ (Value.ref b :: argsL).toArray v B ∧
      ∀ target, Steps p.tables e below (B.U.setTop { g with pc := g.pc + 3, stack := v.toList ++ rest }) target → Steps p.tables e below (T.setTop g) target) ∨
    (∃ (q : Addr) (vm₁ : Vm) (B : Pt), s.WarmedH vm₁ ∧ Stand p l e R s m args below meth c B.U B.locs B.cells B.slots ∧ PostX ⟨T.setVm vm₁, locs, cells, slots⟩ (Value.ref b :: argsL).toArray q B ∧
      Steps p.tables e below (T.setTop g) ((B.U.setTop { g with stack := rest }).pushFrame (.throwing q))) := by
  obtain ⟨mk, methM, hnamed, hmethM, hstM, habM⟩ := Cond.instanceMethod_spec hinst
  obtain ⟨methM', cM, hmethM', -, -, -, -, -, -, hsigM⟩ := Cond.code_spec hnamed hcode
  cases hmethM.symm.trans hmethM'
  obtain ⟨c2, r2, m2, q1, q2, q3, q4, kP, hkP, hkPi⟩ := Cond.selects_spec hsel
  cases hcls.symm.trans q1
  cases (State.methodFound?_of_named hnamed hy).symm.trans q2
  cases hnamed.symm.trans q3
  have hselP : selectMethod e.platform s.vm cellB.cls mk = .method mk := by rw [Launch.admits_selectMethod X.admits]; exact q4
  obtain ⟨vm₁, X₁, hstep₁⟩ := X.invokevirtual hexec hown hlink hnamed hmethM hstM hkP hkPi hy (a := b) (cell := cellB) hcell
    (fun z h => by rw [h] at hobj; cases hobj) hselP hmethM habM hkP hkPi (g := g) hg (argsL := argsL) (rest := rest) (hlen _ hsigM) hstack hdg
  rcases hK m meth c ⟨T.setVm vm₁, locs, cells, slots⟩ { g with stack := rest } (.invokevirtual index) mk (Value.ref b :: argsL).toArray X₁ hg hsize hdg hW (X₁.named hnamed) (hpre vm₁ X₁.warmed) with ⟨v, B, X', hpost, hsteps⟩ | ⟨q, B, X', hpost, hsteps⟩
  · exact Or.inl ⟨v, vm₁, B, X₁.warmed, X', hpost, fun target h => hstep₁ _ fun acts => by rw [doInvoke_state]; exact hsteps.trans h⟩
  · exact Or.inr ⟨q, vm₁, B, X₁.warmed, X', hpost, hstep₁ _ fun acts => by rw [doInvoke_state]; exact hsteps⟩
theorem vx_callS (X : Stand p l e R s m args below meth c T locs cells slots) (hexec : p.tables.exec = Jvm.exec) {own : String} {index : Nat} {y : MethodName} {bytes : ByteArray} {maxL : Nat} {ret : Option FieldType}
    (hown : s.vm.findClass own = some m.cls) (hlink : (Cond.methodLink own index y).before args s = true) (hstat : (Cond.static y).before args s = true) (hinit : (Cond.initialized y.cls).before args s = true)
    (hcode : (Cond.code y bytes maxL ret).before args s = true) (hy : y.cls ≠ "java/lang/invoke/MethodHandle" ∧ y.cls ≠ "java/lang/invoke/VarHandle")
    {W9 : Nat} {Pre : Pt → Array Value → Prop} {Post : Pt → Array Value → Option Value → Pt → Prop} {PostX : Pt → Array Value → Addr → Pt → Prop} (hK : vx_Back l R p e below s args y 3 W9 Pre Post PostX)
    {g : JFrame} (hg : g.method = m) (hsize : g.locals.size = c.maxLocals) {argsL rest : List Value} (hlen : ∀ sig, parseMethodDescriptor y.desc = some sig → argsL.length = sig.parameters.length)
    (hstack : g.stack = argsL.reverse ++ rest) (hW : 2 * g.monitorRoom + (rest.map fun v => v.category).sum ≤ W9) (hdg : decode c.code g.pc = .ok (.invokestatic index, 3))
    (hpre : ∀ vm₁, s.WarmedH vm₁ → Pre ⟨T.setVm vm₁, locs, cells, slots⟩ argsL.toArray) :
    (∃ (v : Option Value) (vm₁ : Vm) (B : Pt), s.WarmedH vm₁ ∧ Stand p l e R s m args below meth c B.U B.locs B.cells B.slots ∧ Post ⟨T.setVm vm₁, locs, cells, slots⟩ argsL.toArray v B ∧
      ∀ target, Steps p.tables e below (B.U.setTop { g with pc := g.pc + 3, stack := v.toList ++ rest }) target → Steps p.tables e below (T.setTop g) target) ∨
    (∃ (q : Addr) (vm₁ : Vm) (B : Pt), s.WarmedH vm₁ ∧ Stand p l e R s m args below meth c B.U B.locs B.cells B.slots ∧ PostX ⟨T.setVm vm₁, locs, cells, slots⟩ argsL.toArray q B ∧
      Steps p.tables e below (T.setTop g) ((B.U.setTop { g with stack := rest }).pushFrame (.throwing q))) := by
  obtain ⟨mk, hnamed⟩ := Cond.code_named hcode
  obtain ⟨methM, cM, hmethM, -, -, -, -, -, -, hsigM⟩ := Cond.code_spec hnamed hcode
  have hstatic : methM.isStatic = true := Cond.static_spec hnamed hmethM hstat
  obtain ⟨kP, hkP, -⟩ := className_of_methodNamed hnamed
  have hinitP : kP.init = .initialized := Cond.initialized_spec (findClass_of_methodNamed hnamed) hkP hinit
  obtain ⟨vm₁, X₁, hstep₁⟩ := X.invokestatic hexec hown hlink hnamed hmethM hstatic hkP hinitP hy (g := g) hg (argsL := argsL) (rest := rest) (hlen _ hsigM) hstack hdg
  rcases hK m meth c ⟨T.setVm vm₁, locs, cells, slots⟩ { g with stack := rest } (.invokestatic index) mk argsL.toArray X₁ hg hsize hdg hW (X₁.named hnamed) (hpre vm₁ X₁.warmed) with ⟨v, B, X', hpost, hsteps⟩ | ⟨q, B, X', hpost, hsteps⟩
  · exact Or.inl ⟨v, vm₁, B, X₁.warmed, X', hpost, fun target h => hstep₁ _ fun acts => by rw [doInvoke_state]; exact hsteps.trans h⟩
  · exact Or.inr ⟨q, vm₁, B, X₁.warmed, X', hpost, hstep₁ _ fun acts => by rw [doInvoke_state]; exact hsteps⟩
end Calls
theorem vx_cls {s : State} {T : State} {vm₁ : Vm} {E : String} {k : ClassId} (hW : s.WarmedH vm₁) (h : (T.setVm vm₁).vm.findClass E = some k) : s.vm.findClass E = some k := by
  have h1 : vm₁.findClass E = some k := h
  rw [hW.alike.findClass] at h1
  exact h1
/-- the method's frame g, with q thrown over it -/
def vx_W (p : Program) (l : Launch) (e : Env) (R : Room) (s : State) (m : MethodId) (args : Array Value) (below : List Frame) (meth : Method) (c : Code) (H : Heap) (locs : List Loc) (cells slots : Nat) (Q : State → Prop) (g : JFrame) (q : Addr) : Prop :=
  ∀ T : State, T.heap = H → Stand p l e R s m args below meth c T locs cells slots → ∃ t, Steps p.tables e below ((T.setTop g).pushFrame (.throwing q)) t ∧ Q t
def vx_Run (p : Program) (l : Launch) (e : Env) (R : Room) (s : State) (m : MethodId) (args : Array Value) (below : List Frame) (meth : Method) (c : Code) (H : Heap) (locs : List Loc) (cells slots mc ms : Nat) (g : JFrame) (rest : List Value) (Qa : State → Outcome → State → Prop) (XC : String → State → State → Prop) (free : Addr → Prop) : Prop :=
  ∀ T : State, T.heap = H → Stand p l e R s m args below meth c T locs cells slots →
    (∃ (v : Option Value) (st₀ t T' : State) (L : List Loc), st₀.heap = H ∧ Stand p l e R s m args below meth c T' (locs ++ L) (cells + mc) (slots + ms) ∧ (∀ q ∈ L, free q.base) ∧ T'.heap = t.heap ∧ T'.vm = t.vm ∧ Qa st₀ (.returned v) t ∧
      Goes p e below T g T' { g with pc := g.pc + 3, stack := v.toList ++ rest }) ∨
    (∃ (q : Addr) (st₀ t T' : State) (L : List Loc) (E : String) (ce : Cell), st₀.heap = H ∧ Stand p l e R s m args below meth c T' (locs ++ L) (cells + mc) (slots + ms) ∧ (∀ z ∈ L, free z.base) ∧ T'.heap = t.heap ∧ T'.vm = t.vm ∧ XC E st₀ t ∧ t.heap[q]? = some ce ∧ ce.vm = .none ∧ s.vm.findClass E = some ce.cls ∧
      Steps p.tables e below (T.setTop g) ((T'.setTop { g with stack := rest }).pushFrame (.throwing q)))
def vx_X {S : Type} (px : S → Prop) (B : String → S → State → Prop) (A : Nat → Prop) : String → State → State → Prop := fun E st t => ∃ u : S, px u ∧ B E u t ∧ va_F A st t
section Runs
variable {p : Program} {l : Launch} {e : Env} {R : Room} {s : State} {m : MethodId} {args : Array Value} {below : List Frame} {meth : Method} {c : Code} {H : Heap} {locs : List Loc} {cells slots : Nat}
variable {y : MethodName} {bytes cc : ByteArray} {maxL nL mc ms n index : Nat} {ret : Option FieldType} {ws : List Cond} {rm : Room} {Pc : Array Value → State → Prop} {Qc : Array Value → State → Outcome → State → Prop} {XC : String → State → State → Prop} {free : Addr → Prop} {Ts : List Cond} {own C : String} {b : Addr} {As rest : List Value} {g : JFrame}
theorem vx_callBack (cb : CallB R s args own index y bytes maxL ret ws rm mc ms n) (hM : vx_Met l y ws rm Pc Qc XC mc ms free) (hbl : FrameBlind Pc) : vx_Back l R p e below s args y 3 8 (PreOf R mc ms Pc) (PostOf Qc mc ms free) (vx_Post XC mc ms free) := by
  obtain ⟨hrc, hrs, hfr, hlo, hws, hcw, -, hini, -⟩ := cb
  exact vx_back (bytes := bytes) (maxL := maxL) (ret := ret) hM hbl hrc hrs hfr hlo hws hcw (fun a' U hW => word_at hW (Or.inl (by first | rfl | simp [Cond.onTables, Cond.keeps, Cond.steady])) hini)
theorem vx_runV (S : CallFix p m c cc nL s args Ts own) (hM : vx_Met l y ws rm Pc Qc XC mc ms free) (cw : CallW R s args own C index y bytes maxL ret ws rm mc ms n) (hp : PreV s H C b Pc As)
    (hg : g.method = m) (hn : As.length = n) (hsize : g.locals.size = nL) (hstack : g.stack = As.reverse ++ .ref b :: rest) (hW : 2 * g.monitorRoom + (rest.map fun v => v.category).sum ≤ 8) (hdg : decode cc g.pc = .ok (.invokevirtual index, 3)) (hf : cells + mc ≤ R.cells ∧ slots + ms ≤ R.slots) :
    vx_Run p l e R s m args below meth c H locs cells slots mc ms g rest (Qc (Value.ref b :: As).toArray) XC free := by
  have hK : vx_Back l R p e below s args y 3 8 (PreOf R mc ms Pc) (PostOf Qc mc ms free) (vx_Post XC mc ms free) := vx_callBack cw.1 hM hp.1
  obtain ⟨⟨-, -, -, -, -, -, hcode, -, hy, hlen, hl⟩, hin, hse⟩ := cw
  obtain ⟨hx, hb, hml, ho, -⟩ := S
  obtain ⟨-, ⟨cellB, hcB, hoB, hclB⟩, hPc⟩ := hp
  intro T hT X
  rcases vx_callV X hx (C := C) (bytes := bytes) (maxL := maxL) (ret := ret) ho hl hin hse hcode hy hK (by rw [hT]; exact hcB) hoB hclB hg (hsize.trans hml.symm) (argsL := As) (rest := rest) (fun sig h => hn.trans (hlen sig h)) hstack hW (by rw [hb]; exact hdg)
    (fun vm₁ hW₁ => ⟨hf.1, hf.2, hPc (T.setVm vm₁) hT hW₁⟩) with ⟨v, vm₁, ⟨U', l2, c2, s2⟩, hW₁, X', ⟨g', mk, t, L, e1, e2, hq, h1, hL, h2, h3⟩, st⟩ | ⟨q, vm₁, ⟨U', l2, c2, s2⟩, hW₁, X', ⟨g', mk, t, L, E, ce, e1, e2, hq, hce, hcv, hcl, h1, hL, h2, h3⟩, st⟩
  · dsimp only [Pt.U, Pt.locs, Pt.cells, Pt.slots] at X' e1 e2 h1 h2 h3 st
    subst h1; subst h2; subst h3
    exact Or.inl ⟨v, (T.setVm vm₁).calling g' mk (Value.ref b :: As).toArray, t, U', L, hT, X', hL, e1, e2, hq, st⟩
  · dsimp only [Pt.U, Pt.locs, Pt.cells, Pt.slots] at X' e1 e2 h1 h2 h3 st hcl
    subst h1; subst h2; subst h3
    exact Or.inr ⟨q, (T.setVm vm₁).calling g' mk (Value.ref b :: As).toArray, t, U', L, E, ce, hT, X', hL, e1, e2, hq, hce, hcv, vx_cls hW₁ hcl, st⟩
theorem vx_runS (S : CallFix p m c cc nL s args Ts own) (hM : vx_Met l y ws rm Pc Qc XC mc ms free) (cw : CallB R s args own index y bytes maxL ret ws rm mc ms n ∧ (Cond.static y).before args s = true) (hp : PreS s H Pc As)
    (hg : g.method = m) (hn : As.length = n) (hsize : g.locals.size = nL) (hstack : g.stack = As.reverse ++ rest) (hW : 2 * g.monitorRoom + (rest.map fun v => v.category).sum ≤ 8) (hdg : decode cc g.pc = .ok (.invokestatic index, 3)) (hf : cells + mc ≤ R.cells ∧ slots + ms ≤ R.slots) :
    vx_Run p l e R s m args below meth c H locs cells slots mc ms g rest (Qc As.toArray) XC free := by
  have hK : vx_Back l R p e below s args y 3 8 (PreOf R mc ms Pc) (PostOf Qc mc ms free) (vx_Post XC mc ms free) := vx_callBack cw.1 hM hp.1
  obtain ⟨⟨-, -, -, -, -, -, hcode, hini, hy, hlen, hl⟩, hstt⟩ := cw
  obtain ⟨hx, hb, hml, ho, -⟩ := S
  intro T hT X
  rcases vx_callS X hx (bytes := bytes) (maxL := maxL) (ret := ret) ho hl hstt hini hcode hy hK hg (hsize.trans hml.symm) (argsL := As) (rest := rest) (fun sig h => hn.trans (hlen sig h)) hstack hW (by rw [hb]; exact hdg)
    (fun vm₁ hW₁ => ⟨hf.1, hf.2, hp.2 (T.setVm vm₁) hT hW₁⟩) with ⟨v, vm₁, ⟨U', l2, c2, s2⟩, hW₁, X', ⟨g', mk, t, L, e1, e2, hq, h1, hL, h2, h3⟩, st⟩ | ⟨q, vm₁, ⟨U', l2, c2, s2⟩, hW₁, X', ⟨g', mk, t, L, E, ce, e1, e2, hq, hce, hcv, hcl, h1, hL, h2, h3⟩, st⟩
  · dsimp only [Pt.U, Pt.locs, Pt.cells, Pt.slots] at X' e1 e2 h1 h2 h3 st
    subst h1; subst h2; subst h3
    exact Or.inl ⟨v, (T.setVm vm₁).calling g' mk As.toArray, t, U', L, hT, X', hL, e1, e2, hq, st⟩
  · dsimp only [Pt.U, Pt.locs, Pt.cells, Pt.slots] at X' e1 e2 h1 h2 h3 st hcl
    subst h1; subst h2; subst h3
    exact Or.inr ⟨q, (T.setVm vm₁).calling g' mk As.toArray, t, U', L, E, ce, hT, X', hL, e1, e2, hq, hce, hcv, vx_cls hW₁ hcl, st⟩
end Runs
section Rows
variable {p : Program} {l : Launch} {e : Env} {R : Room} {s : State} {m : MethodId} {args : Array Value} {below : List Frame} {meth : Method} {c : Code} {H : Heap} {locs : List Loc} {cells slots : Nat} {Q : State → Prop}
variable {mc ms : Nat} {free : Addr → Prop} {A0 A1 : Nat → Prop} {H0 : Heap} {a : Array Value} {pc : Nat} {ls : Array Slot} {st0 rest : List Value}
theorem vx_keep {st₀ t T' : State} {L : List Loc} (h0 : st₀.heap = H) (e1 : T'.heap = t.heap) (hS : va_S A0 H0 H locs) (hA : ∀ q, q < H.size → A1 q → A0 q) (hf : ∀ q, free q → A0 q) (hL : ∀ q ∈ L, free q.base) (hF : va_F A1 st₀ t) :
    H.size ≤ T'.heap.size ∧ (∀ q : Nat, q < H.size → ¬ A1 q → T'.heap[q]? = H[q]?) ∧ va_S A0 H0 T'.heap (locs ++ L) := by
  obtain ⟨hz, hk⟩ := hF
  rw [h0] at hz hk
  exact ⟨by rw [e1]; exact hz, fun q h1 h2 => by rw [e1]; exact hk q h1 h2,
    ⟨Nat.le_trans hS.1 (by rw [e1]; exact hz), fun q h1 h2 => by rw [e1, hk q (Nat.lt_of_lt_of_le h1 hS.1) (fun z => h2 (hA q (Nat.lt_of_lt_of_le h1 hS.1) z))]; exact hS.2.1 q h1 h2, fun q hq => by
      rcases List.mem_append.mp hq with h | h
      · exact hS.2.2 q h
      · exact hf _ (hL q h)⟩⟩
theorem vx_calli {S SX : Type} {post : Int32 → S → Prop} {px : SX → Prop} {B : S → State → Prop} {BX : String → SX → State → Prop} {AX : Nat → Prop} (hr : vx_Run p l e R s m args below meth c H locs cells slots mc ms (F0 m pc ls st0) rest (va_Qi post B A1 a) (vx_X px BX AX) free) (hS : va_S A0 H0 H locs) (hA : ∀ q, q < H.size → A1 q → A0 q) (hf : ∀ q, free q → A0 q) (hAX : ∀ q, q < H.size → AX q → A0 q)
    (kx : ∀ (E : String) (ce : Cell) (q9 : Addr) (u : SX) (t : State) (H1 : Heap) (locs1 : List Loc), t.heap = H1 → s.vm.Alike t.vm → px u → BX E u t → H.size ≤ H1.size → (∀ q : Nat, q < H.size → ¬ AX q → H1[q]? = H[q]?) → va_S A0 H0 H1 locs1 → H1[q9]? = some ce → ce.vm = .none → s.vm.findClass E = some ce.cls → vx_W p l e R s m args below meth c H1 locs1 (cells + mc) (slots + ms) Q (F0 m pc ls rest) q9)
    (kk : ∀ (r : Int32) (u : S) (t : State) (H1 : Heap) (locs1 : List Loc), t.heap = H1 → s.vm.Alike t.vm → post r u → B u t → H.size ≤ H1.size → (∀ q : Nat, q < H.size → ¬ A1 q → H1[q]? = H[q]?) → va_S A0 H0 H1 locs1 → W p l e R s m args below meth c H1 locs1 (cells + mc) (slots + ms) Q (F0 m (pc + 3) ls (.int r :: rest))) : W p l e R s m args below meth c H locs cells slots Q (F0 m pc ls st0) := by
  intro T hT X
  rcases hr T hT X with ⟨v, st₀, t, T', L, h0, X', hL, e1, e2, ⟨⟨r, u, hv, hp, hb⟩, hF⟩, st⟩ | ⟨q, st₀, t, T', L, E, ce, h0, X', hL, e1, e2, ⟨u, hp, hb, hF⟩, hce, hcv, hcl, st⟩
  · cases hv
    obtain ⟨k1, k2, k3⟩ := vx_keep h0 e1 hS hA hf hL hF
    obtain ⟨t2, a1, b1⟩ := kk r u t T'.heap (locs ++ L) e1.symm (by rw [← e2]; exact X'.warmed.alike) hp hb k1 k2 k3 T' rfl X'
    exact ⟨t2, st t2 a1, b1⟩
  · obtain ⟨k1, k2, k3⟩ := vx_keep h0 e1 hS hAX hf hL hF
    obtain ⟨t2, a1, b1⟩ := kx E ce q u t T'.heap (locs ++ L) e1.symm (by rw [← e2]; exact X'.warmed.alike) hp hb k1 k2 k3 (by rw [e1]; exact hce) hcv hcl T' rfl X'
    exact ⟨t2, st.trans a1, b1⟩
theorem vx_calll {S SX : Type} {post : Int64 → S → Prop} {px : SX → Prop} {B : S → State → Prop} {BX : String → SX → State → Prop} {AX : Nat → Prop} (hr : vx_Run p l e R s m args below meth c H locs cells slots mc ms (F0 m pc ls st0) rest (va_Ql post B A1 a) (vx_X px BX AX) free) (hS : va_S A0 H0 H locs) (hA : ∀ q, q < H.size → A1 q → A0 q) (hf : ∀ q, free q → A0 q) (hAX : ∀ q, q < H.size → AX q → A0 q)
    (kx : ∀ (E : String) (ce : Cell) (q9 : Addr) (u : SX) (t : State) (H1 : Heap) (locs1 : List Loc), t.heap = H1 → s.vm.Alike t.vm → px u → BX E u t → H.size ≤ H1.size → (∀ q : Nat, q < H.size → ¬ AX q → H1[q]? = H[q]?) → va_S A0 H0 H1 locs1 → H1[q9]? = some ce → ce.vm = .none → s.vm.findClass E = some ce.cls → vx_W p l e R s m args below meth c H1 locs1 (cells + mc) (slots + ms) Q (F0 m pc ls rest) q9)
    (kk : ∀ (r : Int64) (u : S) (t : State) (H1 : Heap) (locs1 : List Loc), t.heap = H1 → s.vm.Alike t.vm → post r u → B u t → H.size ≤ H1.size → (∀ q : Nat, q < H.size → ¬ A1 q → H1[q]? = H[q]?) → va_S A0 H0 H1 locs1 → W p l e R s m args below meth c H1 locs1 (cells + mc) (slots + ms) Q (F0 m (pc + 3) ls (.long r :: rest))) : W p l e R s m args below meth c H locs cells slots Q (F0 m pc ls st0) := by
  intro T hT X
  rcases hr T hT X with ⟨v, st₀, t, T', L, h0, X', hL, e1, e2, ⟨⟨r, u, hv, hp, hb⟩, hF⟩, st⟩ | ⟨q, st₀, t, T', L, E, ce, h0, X', hL, e1, e2, ⟨u, hp, hb, hF⟩, hce, hcv, hcl, st⟩
  · cases hv
    obtain ⟨k1, k2, k3⟩ := vx_keep h0 e1 hS hA hf hL hF
    obtain ⟨t2, a1, b1⟩ := kk r u t T'.heap (locs ++ L) e1.symm (by rw [← e2]; exact X'.warmed.alike) hp hb k1 k2 k3 T' rfl X'
    exact ⟨t2, st t2 a1, b1⟩
  · obtain ⟨k1, k2, k3⟩ := vx_keep h0 e1 hS hAX hf hL hF
    obtain ⟨t2, a1, b1⟩ := kx E ce q u t T'.heap (locs ++ L) e1.symm (by rw [← e2]; exact X'.warmed.alike) hp hb k1 k2 k3 (by rw [e1]; exact hce) hcv hcl T' rfl X'
    exact ⟨t2, st.trans a1, b1⟩
theorem vx_callf {S SX : Type} {post : UInt32 → S → Prop} {px : SX → Prop} {B : S → State → Prop} {BX : String → SX → State → Prop} {AX : Nat → Prop} (hr : vx_Run p l e R s m args below meth c H locs cells slots mc ms (F0 m pc ls st0) rest (va_Qf post B A1 a) (vx_X px BX AX) free) (hS : va_S A0 H0 H locs) (hA : ∀ q, q < H.size → A1 q → A0 q) (hf : ∀ q, free q → A0 q) (hAX : ∀ q, q < H.size → AX q → A0 q)
    (kx : ∀ (E : String) (ce : Cell) (q9 : Addr) (u : SX) (t : State) (H1 : Heap) (locs1 : List Loc), t.heap = H1 → s.vm.Alike t.vm → px u → BX E u t → H.size ≤ H1.size → (∀ q : Nat, q < H.size → ¬ AX q → H1[q]? = H[q]?) → va_S A0 H0 H1 locs1 → H1[q9]? = some ce → ce.vm = .none → s.vm.findClass E = some ce.cls → vx_W p l e R s m args below meth c H1 locs1 (cells + mc) (slots + ms) Q (F0 m pc ls rest) q9)
    (kk : ∀ (r : UInt32) (u : S) (t : State) (H1 : Heap) (locs1 : List Loc), t.heap = H1 → s.vm.Alike t.vm → post r u → B u t → H.size ≤ H1.size → (∀ q : Nat, q < H.size → ¬ A1 q → H1[q]? = H[q]?) → va_S A0 H0 H1 locs1 → W p l e R s m args below meth c H1 locs1 (cells + mc) (slots + ms) Q (F0 m (pc + 3) ls (.float r :: rest))) : W p l e R s m args below meth c H locs cells slots Q (F0 m pc ls st0) := by
  intro T hT X
  rcases hr T hT X with ⟨v, st₀, t, T', L, h0, X', hL, e1, e2, ⟨⟨r, u, hv, hp, hb⟩, hF⟩, st⟩ | ⟨q, st₀, t, T', L, E, ce, h0, X', hL, e1, e2, ⟨u, hp, hb, hF⟩, hce, hcv, hcl, st⟩
  · cases hv
    obtain ⟨k1, k2, k3⟩ := vx_keep h0 e1 hS hA hf hL hF
    obtain ⟨t2, a1, b1⟩ := kk r u t T'.heap (locs ++ L) e1.symm (by rw [← e2]; exact X'.warmed.alike) hp hb k1 k2 k3 T' rfl X'
    exact ⟨t2, st t2 a1, b1⟩
  · obtain ⟨k1, k2, k3⟩ := vx_keep h0 e1 hS hAX hf hL hF
    obtain ⟨t2, a1, b1⟩ := kx E ce q u t T'.heap (locs ++ L) e1.symm (by rw [← e2]; exact X'.warmed.alike) hp hb k1 k2 k3 (by rw [e1]; exact hce) hcv hcl T' rfl X'
    exact ⟨t2, st.trans a1, b1⟩
theorem vx_calld {S SX : Type} {post : UInt64 → S → Prop} {px : SX → Prop} {B : S → State → Prop} {BX : String → SX → State → Prop} {AX : Nat → Prop} (hr : vx_Run p l e R s m args below meth c H locs cells slots mc ms (F0 m pc ls st0) rest (va_Qd post B A1 a) (vx_X px BX AX) free) (hS : va_S A0 H0 H locs) (hA : ∀ q, q < H.size → A1 q → A0 q) (hf : ∀ q, free q → A0 q) (hAX : ∀ q, q < H.size → AX q → A0 q)
    (kx : ∀ (E : String) (ce : Cell) (q9 : Addr) (u : SX) (t : State) (H1 : Heap) (locs1 : List Loc), t.heap = H1 → s.vm.Alike t.vm → px u → BX E u t → H.size ≤ H1.size → (∀ q : Nat, q < H.size → ¬ AX q → H1[q]? = H[q]?) → va_S A0 H0 H1 locs1 → H1[q9]? = some ce → ce.vm = .none → s.vm.findClass E = some ce.cls → vx_W p l e R s m args below meth c H1 locs1 (cells + mc) (slots + ms) Q (F0 m pc ls rest) q9)
    (kk : ∀ (r : UInt64) (u : S) (t : State) (H1 : Heap) (locs1 : List Loc), t.heap = H1 → s.vm.Alike t.vm → post r u → B u t → H.size ≤ H1.size → (∀ q : Nat, q < H.size → ¬ A1 q → H1[q]? = H[q]?) → va_S A0 H0 H1 locs1 → W p l e R s m args below meth c H1 locs1 (cells + mc) (slots + ms) Q (F0 m (pc + 3) ls (.double r :: rest))) : W p l e R s m args below meth c H locs cells slots Q (F0 m pc ls st0) := by
  intro T hT X
  rcases hr T hT X with ⟨v, st₀, t, T', L, h0, X', hL, e1, e2, ⟨⟨r, u, hv, hp, hb⟩, hF⟩, st⟩ | ⟨q, st₀, t, T', L, E, ce, h0, X', hL, e1, e2, ⟨u, hp, hb, hF⟩, hce, hcv, hcl, st⟩
  · cases hv
    obtain ⟨k1, k2, k3⟩ := vx_keep h0 e1 hS hA hf hL hF
    obtain ⟨t2, a1, b1⟩ := kk r u t T'.heap (locs ++ L) e1.symm (by rw [← e2]; exact X'.warmed.alike) hp hb k1 k2 k3 T' rfl X'
    exact ⟨t2, st t2 a1, b1⟩
  · obtain ⟨k1, k2, k3⟩ := vx_keep h0 e1 hS hAX hf hL hF
    obtain ⟨t2, a1, b1⟩ := kx E ce q u t T'.heap (locs ++ L) e1.symm (by rw [← e2]; exact X'.warmed.alike) hp hb k1 k2 k3 (by rw [e1]; exact hce) hcv hcl T' rfl X'
    exact ⟨t2, st.trans a1, b1⟩
theorem vx_callv {S SX : Type} {post : S → Prop} {px : SX → Prop} {B : S → State → Prop} {BX : String → SX → State → Prop} {AX : Nat → Prop} (hr : vx_Run p l e R s m args below meth c H locs cells slots mc ms (F0 m pc ls st0) rest (va_Qv post B A1 a) (vx_X px BX AX) free) (hS : va_S A0 H0 H locs) (hA : ∀ q, q < H.size → A1 q → A0 q) (hf : ∀ q, free q → A0 q) (hAX : ∀ q, q < H.size → AX q → A0 q)
    (kx : ∀ (E : String) (ce : Cell) (q9 : Addr) (u : SX) (t : State) (H1 : Heap) (locs1 : List Loc), t.heap = H1 → s.vm.Alike t.vm → px u → BX E u t → H.size ≤ H1.size → (∀ q : Nat, q < H.size → ¬ AX q → H1[q]? = H[q]?) → va_S A0 H0 H1 locs1 → H1[q9]? = some ce → ce.vm = .none → s.vm.findClass E = some ce.cls → vx_W p l e R s m args below meth c H1 locs1 (cells + mc) (slots + ms) Q (F0 m pc ls rest) q9)
    (kk : ∀ (u : S) (t : State) (H1 : Heap) (locs1 : List Loc), t.heap = H1 → s.vm.Alike t.vm → post u → B u t → H.size ≤ H1.size → (∀ q : Nat, q < H.size → ¬ A1 q → H1[q]? = H[q]?) → va_S A0 H0 H1 locs1 → W p l e R s m args below meth c H1 locs1 (cells + mc) (slots + ms) Q (F0 m (pc + 3) ls (rest))) : W p l e R s m args below meth c H locs cells slots Q (F0 m pc ls st0) := by
  intro T hT X
  rcases hr T hT X with ⟨v, st₀, t, T', L, h0, X', hL, e1, e2, ⟨⟨u, hv, hp, hb⟩, hF⟩, st⟩ | ⟨q, st₀, t, T', L, E, ce, h0, X', hL, e1, e2, ⟨u, hp, hb, hF⟩, hce, hcv, hcl, st⟩
  · cases hv
    obtain ⟨k1, k2, k3⟩ := vx_keep h0 e1 hS hA hf hL hF
    obtain ⟨t2, a1, b1⟩ := kk u t T'.heap (locs ++ L) e1.symm (by rw [← e2]; exact X'.warmed.alike) hp hb k1 k2 k3 T' rfl X'
    exact ⟨t2, st t2 a1, b1⟩
  · obtain ⟨k1, k2, k3⟩ := vx_keep h0 e1 hS hAX hf hL hF
    obtain ⟨t2, a1, b1⟩ := kx E ce q u t T'.heap (locs ++ L) e1.symm (by rw [← e2]; exact X'.warmed.alike) hp hb k1 k2 k3 (by rw [e1]; exact hce) hcv hcl T' rfl X'
    exact ⟨t2, st.trans a1, b1⟩
/-- caught by the row x of this method's table; the rows ahead don't take it -/
theorem vx_catch {own name : String} {E : String} {ce : Cell} {q : Addr} (hown : s.vm.findClass own = some m.cls) (pre : List ExceptionTableEntry) (x : ExceptionTableEntry) (suf : List ExceptionTableEntry) (hsplit : c.exceptionTable.toList = pre ++ x :: suf)
    (hpass : ∀ z ∈ pre, covers z pc = false ∨ (z.catchType ≠ 0 ∧ ∃ nm : String, (Cond.classLink own z.catchType nm).before args s = true ∧ va_Nc E nm s)) (hx : covers x pc = true) (h0 : x.catchType ≠ 0)
    (hlink : (Cond.classLink own x.catchType name).before args s = true) (hcast : (Cond.castable E name).before args s = true) (hcell : H[q]? = some ce) (hv : ce.vm = .none) (hcl : s.vm.findClass E = some ce.cls)
    (kk : W p l e R s m args below meth c H locs cells slots Q (F0 m x.handlerPc ls [.ref q])) : vx_W p l e R s m args below meth c H locs cells slots Q (F0 m pc ls rest) q := by
  intro T hT X
  have hpl : e.platform.magicAccessors = ({} : Platform).magicAccessors := by rw [X.admits.platform]
  obtain ⟨c3, c4, hc3, hc4, hasg⟩ := Cond.castable_spec hcast
  cases Option.some.inj (hc3.symm.trans hcl)
  obtain ⟨c5, hc5, hcl5⟩ := Cond.classLink_spec hown hlink e.platform hpl
  cases Option.some.inj (hc4.symm.trans hc5)
  obtain ⟨vm', X', st⟩ := X.thenCaughtThrough q (g := F0 m pc ls rest) rfl (Steps.refl _) (by rw [hT]; exact hcell) (by rw [hv]; rfl) (by obtain ⟨k9, h9, -⟩ := Vm.findClass_spec hcl; exact ⟨k9, h9⟩) pre x suf hsplit
    (fun z hz => by
      rcases hpass z hz with h | ⟨hz0, nm, hl1, hn1⟩
      · exact Or.inl h
      · obtain ⟨c6, hc6, hcl6⟩ := Cond.classLink_spec hown hl1 e.platform hpl
        obtain ⟨a8, b8, h1, h2, h3⟩ := hn1
        cases Option.some.inj (h1.symm.trans hcl)
        cases Option.some.inj (h2.symm.trans hc6)
        exact Or.inr ⟨hz0, _, hcl6, h3⟩) hx (Or.inr ⟨h0, c4, hcl5, hasg⟩)
  obtain ⟨t, a1, b1⟩ := kk (T.setVm vm') hT X'
  exact ⟨t, st.trans a1, b1⟩
end Rows
section Ends
variable {p : Program} {l : Launch} {e : Env} {R : Room} {s : State} {m : MethodId} {args : Array Value} {below : List Frame} {meth : Method} {c : Code} {H : Heap} {locs : List Loc} {cells slots : Nat} {Q : State → Prop}
variable {mc ms : Nat} {free : Addr → Prop} {A0 A1 : Nat → Prop} {H0 : Heap} {a : Array Value} {ls : Array Slot} {st0 rest : List Value}
variable {Qc : Array Value → State → Outcome → State → Prop} {XC : String → State → State → Prop}
/-- what a body that may throw owes at its end -/
def vx_MQ (below : List Frame) (Qc : Array Value → State → Outcome → State → Prop) (XC : String → State → State → Prop) (a : Array Value) (s : State) (mc ms : Nat) (free : Addr → Prop) : State → Prop := fun t =>
  ∃ o, t.status = .running ∧ Ended t below o ∧ vx_Q Qc XC mc ms free a s o t
theorem vx_ret {g : JFrame} {mc ms : Nat} (k : W p l e R s m args below meth c H locs cells slots (MQ below Qc args s mc ms free) g) : W p l e R s m args below meth c H locs cells slots (vx_MQ below Qc XC args s mc ms free) g := by
  intro T hT X
  obtain ⟨t, a1, o, b1, b2, b3, b4⟩ := k T hT X
  exact ⟨t, a1, o, b1, b2, Or.inl ⟨b3, b4⟩⟩
/-- not caught here: it goes on to the caller -/
theorem vx_widen {g : JFrame} {q : Addr} {k n : Nat} (h1 : cells ≤ k) (h2 : slots ≤ n) (kk : vx_W p l e R s m args below meth c H locs k n Q g q) : vx_W p l e R s m args below meth c H locs cells slots Q g q := fun T hT X => kk T hT (stand_widen X h1 h2)
theorem vx_out {pc : Nat} {E : String} {ce : Cell} {q : Addr} {mc ms : Nat} (hout : ∀ x ∈ c.exceptionTable.toList, covers x pc = false) (hlocks : meth.locks = false) (hcell : H[q]? = some ce) (hv : ce.vm = .none) (hcl : s.vm.findClass E = some ce.cls)
    (hx : ∀ t : State, t.heap = H → s.vm.Alike t.vm → XC E s t) (hf : ∀ z ∈ locs, free z.base) (hc : cells ≤ mc) (hs : slots ≤ ms) :
    vx_W p l e R s m args below meth c H locs cells slots (vx_MQ below Qc XC args s mc ms free) (F0 m pc ls rest) q := by
  intro T hT X
  obtain ⟨st1, hrun, hend, hW, hsm⟩ := X.leaveThrown q (g := F0 m pc ls rest) rfl rfl rfl hout hlocks
  have hcell9 : (T.setFrames (.throwing q :: below)).heap[q]? = some ce := by
    show T.heap[q]? = some ce
    rw [hT]; exact hcell
  exact ⟨_, st1, .threw q, hrun, hend, Or.inr ⟨q, rfl, E, ce, locs, hx _ hT hW.alike, hcell9, hv, hcl, hW, hsm.mono hc hs, hf⟩⟩
theorem vx_frame {U : State} {k n : Nat} (h : s.sameButNew ({ U with vm := s.vm } : State) locs k n) : s.heap.size ≤ U.heap.size ∧ ∀ q : Nat, q < s.heap.size → (∀ z ∈ locs, z.base ≠ q) → U.heap[q]? = s.heap[q]? := by
  obtain ⟨-, h2, -, -, -, h6⟩ := h
  refine ⟨h2, fun q hq hz => ?_⟩
  obtain ⟨c9, e1, e2, e3, e4⟩ := h6 q _ (Array.getElem?_eq_getElem hq)
  have hs : c9.slots = (s.heap[q]).slots := Array.ext_getElem? fun i => e4 i fun hm => hz _ hm rfl
  have h9 : c9 = s.heap[q] := by
    rw [hs] at e2
    exact e2
  have e5 : U.heap[q]? = some c9 := e1
  rw [e5, h9, Array.getElem?_eq_getElem hq]
/-- the words of a throw but the four that speak of the heap -/
def vx_no (w : Cond) : Bool := decide (w ≠ .isRef (.static Bundle.tN "UNASSIGNED_STACK" Bundle.steD)) && decide (w ≠ .isRef (.static Bundle.tN "SUPPRESSED_SENTINEL" Bundle.listD)) && decide (w ≠ .laysStatic Bundle.tN "UNASSIGNED_STACK" Bundle.steD) && decide (w ≠ .laysStatic Bundle.tN "SUPPRESSED_SENTINEL" Bundle.listD)
def vx_at0 (own : String) (ic : Nat) (X : String) (names : List String) : List Cond := (Bundle.ownAtoms0 own ic X names).filter vx_no
def vx_atS (own : String) (ic : Nat) (X : String) (names : List String) : List Cond := (Bundle.ownAtoms own ic X names).filter vx_no
/-- a word that the tables alone decide, or a good one -/
def vx_ot (w : Cond) : Bool := w.onTables || goodWord w
theorem vx_ot_at {args a' : Array Value} {s U : State} {w : Cond} (hW : s.WarmedH U.vm) (hvm : s.vm = U.vm) (hg : vx_ot w = true) (h : w.before args s = true) : w.before a' U = true := by
  simp only [vx_ot, Bool.or_eq_true] at hg
  rcases hg with hg | hg
  · exact va_tabs hg hvm h
  · exact word_at hW (good_of_word hg) h
/-- a list's words: the good ones out of the method's own list, the others by premises of their own -/
theorem vx_hat {args : Array Value} {s : State} {L B : List Cond} (h1 : ∀ w ∈ L.filter goodWord, w.before args s = true) (h2 : ∀ w ∈ L.filter (fun w => !goodWord w), w ∈ B) (h3 : ∀ w ∈ B, w.before args s = true) : ∀ w ∈ L, w.before args s = true := by
  intro w hw
  by_cases g : goodWord w = true
  · exact h1 w (List.mem_filter.mpr ⟨hw, g⟩)
  · refine h3 w (h2 w (List.mem_filter.mpr ⟨hw, ?_⟩))
    show (!goodWord w) = true
    cases hgw : goodWord w
    · rfl
    · exact absurd hgw g
theorem vx_c {args : Array Value} {s : State} {w : Cond} {B : List Cond} (h : w.before args s = true) (t : ∀ w ∈ B, w.before args s = true) : ∀ w' ∈ w :: B, w'.before args s = true := fun w' h' => (List.mem_cons.mp h').elim (fun e => by rw [e]; exact h) (t w')
theorem vx_n {args : Array Value} {s : State} : ∀ w ∈ ([] : List Cond), w.before args s = true := fun _ h => nomatch h
theorem vx_own {args : Array Value} {s : State} {L : List Cond} (h1 : ∀ w ∈ L.filter vx_no, w.before args s = true)
    (hU : (Cond.isRef (.static Bundle.tN "UNASSIGNED_STACK" Bundle.steD)).before args s = true) (hN : (Cond.isRef (.static Bundle.tN "SUPPRESSED_SENTINEL" Bundle.listD)).before args s = true)
    (lU : (Cond.laysStatic Bundle.tN "UNASSIGNED_STACK" Bundle.steD).before args s = true) (lN : (Cond.laysStatic Bundle.tN "SUPPRESSED_SENTINEL" Bundle.listD).before args s = true) : ∀ w ∈ L, w.before args s = true := by
  intro w hw
  by_cases e1 : w = .isRef (.static Bundle.tN "UNASSIGNED_STACK" Bundle.steD)
  · rw [e1]; exact hU
  · by_cases e2 : w = .isRef (.static Bundle.tN "SUPPRESSED_SENTINEL" Bundle.listD)
    · rw [e2]; exact hN
    · by_cases e3 : w = .laysStatic Bundle.tN "UNASSIGNED_STACK" Bundle.steD
      · rw [e3]; exact lU
      · by_cases e4 : w = .laysStatic Bundle.tN "SUPPRESSED_SENTINEL" Bundle.listD
        · rw [e4]; exact lN
        · exact h1 w (List.mem_filter.mpr ⟨hw, by unfold vx_no; rw [decide_eq_true e1, decide_eq_true e2, decide_eq_true e3, decide_eq_true e4]; rfl⟩)
/-- where a static field lies, its class's statics cell in H -/
def vx_L (C n d : String) (A : Nat → Prop) (U : State) (H : Heap) : Prop := ∃ (c : ClassId) (k : Class) (i : Nat) (f : Field) (a : Nat) (cell : Cell), U.vm.findClass C = some c ∧ U.fieldFound? C n d = some (c, k, i, f) ∧ f.isStatic = true ∧ k.statics = some a ∧ H[a]? = some cell ∧ cell.vm.isStatics = true ∧ cell.cls = c ∧ f.slot < cell.slots.size ∧ k.staticTypes[f.slot]? = some f.type ∧ ¬ A a
theorem vx_L.moved {C n d : String} {A : Nat → Prop} {u U : State} {H : Heap} (hvm : u.vm.Alike U.vm) (h : vx_L C n d A u H) : vx_L C n d A U H := by
  obtain ⟨c, k, i, f, a, cell, h1, h2, h3, h4, h5, h6, h7, h8, h9, h10⟩ := h
  obtain ⟨k', hi', he⟩ := State.fieldFound?_setVm hvm h2
  exact ⟨c, k', i, f, a, cell, by rw [hvm.findClass]; exact h1, hi', h3, by rw [he]; exact h4, h5, h6, h7, h8, by rw [he]; exact h9, h10⟩
theorem vx_L.kept {C n d : String} {A : Nat → Prop} {U : State} {H H1 : Heap} (h : vx_L C n d A U H) (hq : ∀ a : Nat, a < H.size → ¬ A a → H1[a]? = H[a]?) : vx_L C n d A U H1 := by
  obtain ⟨c, k, i, f, a, cell, h1, h2, h3, h4, h5, h6, h7, h8, h9, h10⟩ := h
  exact ⟨c, k, i, f, a, cell, h1, h2, h3, h4, by rw [hq a (Array.getElem?_eq_some_iff.mp h5).1 h10]; exact h5, h6, h7, h8, h9, h10⟩
theorem vx_L.narrow {C n d : String} {A B : Nat → Prop} {U : State} {H : Heap} (h : vx_L C n d A U H) (hAB : ∀ q, B q → A q) : vx_L C n d B U H := by
  obtain ⟨c, k, i, f, a, cell, h1, h2, h3, h4, h5, h6, h7, h8, h9, h10⟩ := h
  exact ⟨c, k, i, f, a, cell, h1, h2, h3, h4, h5, h6, h7, h8, h9, fun z => h10 (hAB _ z)⟩
theorem vx_L.word {C n d : String} {A : Nat → Prop} {s : State} {args : Array Value} (h : vx_L C n d A s s.heap) : (Cond.laysStatic C n d).before args s = true := by
  obtain ⟨c, k, i, f, a, cell, h1, h2, h3, h4, h5, h6, h7, h8, h9, -⟩ := h
  show (Cond.laysStatic C n d).holds args s none s [] = true
  exact Cond.laysStatic_of h1 h2 h3 h4 h5 h6 h7 h8 h9
/-- .. and what it holds: null or some reference -/
def vx_Zq (C n d : String) (A : Nat → Prop) (U : State) (H : Heap) : Prop := va_Zq C n d A U H ∧ vx_L C n d A U H
theorem vx_Zq.moved {C n d : String} {A : Nat → Prop} {u U : State} {H : Heap} (hvm : u.vm.Alike U.vm) (h : vx_Zq C n d A u H) : vx_Zq C n d A U H := ⟨va_Zq.moved hvm h.1, vx_L.moved hvm h.2⟩
theorem vx_Zq.kept {C n d : String} {A : Nat → Prop} {U : State} {H H1 : Heap} (h : vx_Zq C n d A U H) (hq : ∀ a : Nat, a < H.size → ¬ A a → H1[a]? = H[a]?) : vx_Zq C n d A U H1 := ⟨va_Zq.kept h.1 hq, vx_L.kept h.2 hq⟩
theorem vx_Zq.narrow {C n d : String} {A B : Nat → Prop} {U : State} {H : Heap} (h : vx_Zq C n d A U H) (hAB : ∀ q, B q → A q) : vx_Zq C n d B U H := ⟨va_Zq.narrow h.1 hAB, vx_L.narrow h.2 hAB⟩
theorem vx_Zqof {args : Array Value} {s : State} {C n d : String} {A : Nat → Prop} (hl : (Cond.laysStatic C n d).before args s = true) (hini : (Cond.initialized C).before args s = true) (h : (Cond.isRef (.static C n d)).before args s = true) (hA : ∀ a : Nat, a < s.heap.size → ¬ A a) : vx_Zq C n d A s s.heap := by
  refine ⟨va_Zqof hl hini h hA, ?_⟩
  obtain ⟨c, k, i, f, a, cell, h1, h2, h3, h4, h5, h6, h7, h8, h9⟩ := Cond.laysStatic_spec hl
  exact ⟨c, k, i, f, a, cell, h1, h2, h3, h4, h5, h6, h7, h8, h9, hA a (Array.getElem?_eq_some_iff.mp h5).1⟩
theorem vx_isRef {C n d : String} {v : Value} {A : Nat → Prop} {s : State} {args : Array Value} (h : va_Z C n d v A s s.heap) (hv : v.isRef = true) : (Cond.isRef (.static C n d)).before args s = true := by
  obtain ⟨cf, kf, fi, f, a, cell, h1, h2, h3, h4, h5, h6, h7, -⟩ := h
  have he : (Term.static C n d).eval args s none [] s = some v := by
    simp [Term.eval, State.fieldNamed?, h1, h2, h4, h5, h6, h7]
  simp only [Cond.before, Cond.holds, Cond.value, he]
  cases v <;> simp_all [Value.isRef]
theorem vx_isRefq {C n d : String} {A : Nat → Prop} {s : State} {args : Array Value} (h : va_Zq C n d A s s.heap) : (Cond.isRef (.static C n d)).before args s = true := by
  rcases h with h | ⟨t, h⟩
  · exact vx_isRef h rfl
  · exact vx_isRef h rfl
/-- the same frame, seen from here: as if the method were called anew in this heap -/
theorem vx_rebase {T : State} (X : Stand p l e R s m args below meth c T locs cells slots) {R' : Room} (hf : R'.frames ≤ R.frames) (hl : R'.locals ≤ R.locals) (hc : cells + R'.cells ≤ R.cells) (hs : slots + R'.slots ≤ R.slots) :
    Stand p l e R' ((T.setVm s.vm).setFrames (.invoking m args :: below)) m args below meth c T [] 0 0 := by
  have htop : (T.setVm s.vm).topJava?.isSome := X.here.top
  have hF : ((T.setVm s.vm).setFrames (.invoking m args :: below)).frames = .invoking m args :: below := State.frames_setFrames _ (State.cur_lt_of_top htop)
  obtain ⟨g₀, hg0⟩ := Option.isSome_iff_exists.mp htop
  obtain ⟨r, hr⟩ := State.topJava?_eq_some.mp hg0
  have hl9 : e.platform.stackLimits (T.setVm s.vm).me = e.platform.stackLimits s.me := X.limits
  have hb9 : (T.setVm s.vm).me.stackBytes = s.me.stackBytes := X.bytes
  refine ⟨X.admits, X.cas, X.clock, hF, ?_, X.hears, X.method, X.code, X.here, X.tail, X.warmed, ?_, ?_, ?_⟩
  · have h := X.room
    have hU : ((T.setVm s.vm).setFrames (.invoking m args :: below)).localsInUse = s.localsInUse := by
      rw [State.localsInUse_invoking hF (meth := meth) (c := c) X.method X.code, State.localsInUse_invoking X.frames X.method X.code]
    simp only [State.hasRoom, Bool.and_eq_true, decide_eq_true_eq] at h ⊢
    obtain ⟨⟨⟨⟨h1, h2, h3, h4, h5, h6⟩, h7⟩, h8⟩, h9⟩ := h
    rw [X.frames, List.length_cons] at h2 h3
    have q1 := X.heapSize
    have q2 := X.used
    simp only [hF, hU, List.length_cons, State.stackLimits_setFrames, State.stackBytes_setFrames, hl9, hb9]
    refine ⟨⟨⟨⟨by omega, by omega, by omega, by omega, by omega, h6⟩, ?_⟩, ?_⟩, X.book⟩
    · show T.heap.size + R'.cells ≤ e.platform.maxCells
      omega
    · show T.slotsUsed + R'.slots ≤ e.platform.maxSlots
      omega
  · rw [State.stackLimits_setFrames]; rfl
  · rw [State.stackBytes_setFrames]; rfl
  · refine ⟨?_, Nat.le_refl _, Nat.le_refl _, ?_, ?_, fun a c9 h9 => ⟨c9, h9, rfl, rfl, fun _ _ => rfl⟩⟩
    · obtain ⟨t, ht, -⟩ := State.frames_cons hr
      show T.setVm s.vm = { ((T.setVm s.vm).setFrames (.invoking m args :: below)).setFrames (T.setVm s.vm).frames with heap := T.heap, slotsUsed := T.slotsUsed }
      rw [State.setFrames_setFrames, State.setFrames_self ht]
      rfl
    · show T.slotsUsed = T.slotsUsed + ((T.heap.toList.drop T.heap.size).map (·.slots.size)).sum
      rw [List.drop_eq_nil_of_le (Nat.le_of_eq Array.length_toList)]
      rfl
    · show ((T.heap.toList.drop T.heap.size).map (·.slots.size)).sum ≤ 0
      rw [List.drop_eq_nil_of_le (Nat.le_of_eq Array.length_toList)]
      exact Nat.le_refl _
/-- 'throw new E()': new; dup; invokespecial; athrow -/
theorem vx_throw0 {cc : ByteArray} {pc : Nat} (hexec : p.tables.exec = Jvm.exec) (hb : c.code = cc) (hl : l.stackTraces = false) {own cls : String} {names : List String} {ik ic mc ms : Nat} {A : Nat → Prop}
    (hown : s.vm.findClass own = some m.cls) (hcls : Bundle.fit cls = true) (hnames : ∀ n ∈ names, Bundle.fit n = true)
    (hk : (Cond.classLink own ik cls).before args s = true) (hini : (Cond.initialized cls).before args s = true) (hat : ∀ w ∈ vx_at0 own ic cls names, w.before args s = true)
    (hgood : ∀ w ∈ Cond.classLink own ik cls :: Cond.initialized cls :: vx_at0 own ic cls names, vx_ot w = true)
    (hU : vx_Zq Bundle.tN "UNASSIGNED_STACK" Bundle.steD A s s.heap) (hN : vx_Zq Bundle.tN "SUPPRESSED_SENTINEL" Bundle.listD A s s.heap) (hS : va_S A s.heap H locs) (hsize : ls.size = c.maxLocals)
    (d0 : decode cc pc = .ok (.new ik, 3)) (d3 : decode cc (pc + 3) = .ok (.dup, 1)) (d4 : decode cc (pc + 4) = .ok (.invokespecial ic, 3)) (d7 : decode cc (pc + 7) = .ok (.athrow, 1))
    (hout : ∀ x ∈ c.exceptionTable.toList, covers x (pc + 7) = false)
    (hRframes : names.length + 3 < R.frames) (hRlocals : (rest.map fun v => v.category).sum + (13 * (names.length + 1) + 42) ≤ R.locals) (hRcells : cells + 1 ≤ R.cells) (hRslots : slots + 6 ≤ R.slots) (hlocks : meth.locks = false)
    (hx : ∀ t : State, s.vm.Alike t.vm → H.size ≤ t.heap.size → (∀ q : Nat, q < H.size → t.heap[q]? = H[q]?) → XC cls s t)
    (hf : ∀ z ∈ locs, free z.base) (hc : cells + 1 ≤ mc) (hs : slots + 6 ≤ ms) :
    W p l e R s m args below meth c H locs cells slots (vx_MQ below Qc XC args s mc ms free) (F0 m pc ls rest) := by
  intro T hT X
  have htr : e.platform.stackTraces = false := (show e.platform.stackTraces = l.stackTraces by rw [X.admits.platform]).trans hl
  have Y := vx_rebase X (R' := { frames := R.frames, locals := R.locals, cells := 1, slots := 6 }) (Nat.le_refl _) (Nat.le_refl _) hRcells hRslots
  obtain ⟨s', hA⟩ : ∃ z, z = (T.setVm s.vm).setFrames (.invoking m args :: below) := ⟨_, rfl⟩
  rw [← hA] at Y
  have hvm : s'.vm = s.vm := by rw [hA]; rfl
  have hhp : s'.heap = H := by rw [hA]; exact hT
  have hW0 : s.WarmedH s'.vm := by rw [hvm]; exact State.WarmedH.refl s
  have hat' : ∀ w ∈ vx_at0 own ic cls names, w.before args s' = true := fun w hw => vx_ot_at hW0 hvm.symm (hgood w (List.mem_cons_of_mem _ (List.mem_cons_of_mem _ hw))) (hat w hw)
  have hk' : (Cond.classLink own ik cls).before args s' = true := vx_ot_at hW0 hvm.symm (hgood _ List.mem_cons_self) hk
  have hini' : (Cond.initialized cls).before args s' = true := vx_ot_at hW0 hvm.symm (hgood _ (List.mem_cons_of_mem _ List.mem_cons_self)) hini
  have hU' : vx_Zq Bundle.tN "UNASSIGNED_STACK" Bundle.steD A s' s'.heap := by rw [hhp]; exact vx_Zq.moved hW0.alike (hU.kept hS.2.1)
  have hN' : vx_Zq Bundle.tN "SUPPRESSED_SENTINEL" Bundle.listD A s' s'.heap := by rw [hhp]; exact vx_Zq.moved hW0.alike (hN.kept hS.2.1)
  have h : ∀ w ∈ Bundle.ownAtoms0 own ic cls names, w.before args s' = true := vx_own hat' (vx_isRefq hU'.1) (vx_isRefq hN'.1) hU'.2.word hN'.2.word
  have hown' : s'.vm.findClass own = some m.cls := by rw [hvm]; exact hown
  have hins : (Cond.instantiable cls 6).before args s' = true := h _ (by simp [Bundle.ownAtoms0])
  obtain ⟨vm₁, cX, kX, hfX, hkX, -, -, X₁, st1⟩ := Y.newCold hexec (own := own) (C := cls) (index := ik) (n := 6) hown' hk' hins hini'
    (g := F0 m pc ls rest) rfl (by rw [hb]; exact d0) (Nat.le_refl _) (Nat.le_refl _)
  generalize hT1 : (T.setVm vm₁).pushCell { cls := cX, slots := kX.instanceTypes.map defaultValue, vm := .none } = T1 at X₁ st1
  have hcat : (Value.ref T.heap.size).category = 1 := rfl
  have hcellA : T1.heap[T.heap.size]? = some (freshCell cX kX) := by rw [← hT1]; exact State.heap_pushCell_size _ _
  have d3' : decode c.code (pc + 3) = .ok (.dup, 1) := by rw [hb]; exact d3
  obtain ⟨U, hsteps, hrun, hend, hW, hsame, ce, hce, hO⟩ := X₁.ctorThrow0 hexec htr (own := own) (cls := cls) (names := names) (ic := ic) hown' hcls hnames h (fun x hx => nomatch hx) hfX hkX hcellA (by rw [hhp, hT]; exact Nat.le_refl _)
    (g := { method := m, pc := pc + 4, locals := ls, stack := .ref T.heap.size :: .ref T.heap.size :: rest, locked := none }) rfl hsize rfl rfl (rest := rest) rfl
    (by rw [hb]; exact d4) (by rw [hb]; exact d7) hout hRframes (by simp only [List.map_cons, List.sum_cons, hcat]; omega) hlocks
  obtain ⟨f1, f2⟩ := vx_frame hsame
  rw [hhp] at f1 f2
  have hWs : s.WarmedH U.vm := State.WarmedH.trans hW0 hW
  have hcl : s.vm.findClass cls = some ce.cls := by
    have h9 := hO.cls
    rw [hvm] at h9
    exact h9
  have hall : s.sameButNew ({ U with vm := s.vm } : State) locs mc ms := by
    subst hA
    obtain ⟨e1, e2⟩ := hsame
    rw [State.setFrames_setFrames] at e1
    have h2 : (T.setVm s.vm).sameButNew ({ U with vm := s.vm } : State) [] (0 + 1) (0 + 6) := ⟨e1, e2⟩
    have h3 := X.same.trans h2
    rw [List.append_nil] at h3
    exact h3.mono hc hs
  refine ⟨U, ?_, .threw T.heap.size, hrun, hend, Or.inr ⟨T.heap.size, rfl, cls, ce, locs, hx U hWs.alike f1 (fun q hq => f2 q hq (fun z hz => nomatch hz)), hce, hO.vm, hcl, hWs, hall, hf⟩⟩
  refine st1 _ ?_
  show Steps p.tables e below (T1.setTop { method := m, pc := pc + 3, locals := ls, stack := .ref T.heap.size :: rest, locked := none }) _
  jvm_step X₁.here [X₁.here.top, hexec, d3', Value.category]
  exact hsteps
/-- 'throw new E("text")': new; dup; ldc; invokespecial; athrow -/
theorem vx_throwS {cc : ByteArray} {pc : Nat} (hexec : p.tables.exec = Jvm.exec) (hb : c.code = cc) (hl : l.stackTraces = false) {own cls text : String} {names : List String} {ik is ic mc ms sa : Nat} {A : Nat → Prop}
    (hown : s.vm.findClass own = some m.cls) (hcls : Bundle.fit cls = true) (hnames : ∀ n ∈ names, Bundle.fit n = true)
    (hk : (Cond.classLink own ik cls).before args s = true) (hini : (Cond.initialized cls).before args s = true) (hstr : vk_R own is text sa s) (hat : ∀ w ∈ vx_atS own ic cls names, w.before args s = true)
    (hgood : ∀ w ∈ Cond.classLink own ik cls :: Cond.initialized cls :: vx_atS own ic cls names, vx_ot w = true)
    (hU : vx_Zq Bundle.tN "UNASSIGNED_STACK" Bundle.steD A s s.heap) (hN : vx_Zq Bundle.tN "SUPPRESSED_SENTINEL" Bundle.listD A s s.heap) (hS : va_S A s.heap H locs) (hsize : ls.size = c.maxLocals)
    (d0 : decode cc pc = .ok (.new ik, 3)) (d3 : decode cc (pc + 3) = .ok (.dup, 1)) (d4 : decode cc (pc + 4) = .ok (.ldc is, 2)) (d6 : decode cc (pc + 6) = .ok (.invokespecial ic, 3)) (d9 : decode cc (pc + 9) = .ok (.athrow, 1))
    (hout : ∀ x ∈ c.exceptionTable.toList, covers x (pc + 9) = false)
    (hRframes : names.length + 3 < R.frames) (hRlocals : (rest.map fun v => v.category).sum + (13 * (names.length + 1) + 43) ≤ R.locals) (hRcells : cells + 1 ≤ R.cells) (hRslots : slots + 6 ≤ R.slots) (hlocks : meth.locks = false)
    (hx : ∀ t : State, s.vm.Alike t.vm → H.size ≤ t.heap.size → (∀ q : Nat, q < H.size → t.heap[q]? = H[q]?) → XC cls s t)
    (hf : ∀ z ∈ locs, free z.base) (hc : cells + 1 ≤ mc) (hs : slots + 6 ≤ ms) :
    W p l e R s m args below meth c H locs cells slots (vx_MQ below Qc XC args s mc ms free) (F0 m pc ls rest) := by
  intro T hT X
  have htr : e.platform.stackTraces = false := (show e.platform.stackTraces = l.stackTraces by rw [X.admits.platform]).trans hl
  have Y := vx_rebase X (R' := { frames := R.frames, locals := R.locals, cells := 1, slots := 6 }) (Nat.le_refl _) (Nat.le_refl _) hRcells hRslots
  obtain ⟨s', hA⟩ : ∃ z, z = (T.setVm s.vm).setFrames (.invoking m args :: below) := ⟨_, rfl⟩
  rw [← hA] at Y
  have hvm : s'.vm = s.vm := by rw [hA]; rfl
  have hhp : s'.heap = H := by rw [hA]; exact hT
  have hW0 : s.WarmedH s'.vm := by rw [hvm]; exact State.WarmedH.refl s
  have hat' : ∀ w ∈ vx_atS own ic cls names, w.before args s' = true := fun w hw => vx_ot_at hW0 hvm.symm (hgood w (List.mem_cons_of_mem _ (List.mem_cons_of_mem _ hw))) (hat w hw)
  have hk' : (Cond.classLink own ik cls).before args s' = true := vx_ot_at hW0 hvm.symm (hgood _ List.mem_cons_self) hk
  have hini' : (Cond.initialized cls).before args s' = true := vx_ot_at hW0 hvm.symm (hgood _ (List.mem_cons_of_mem _ List.mem_cons_self)) hini
  have hU' : vx_Zq Bundle.tN "UNASSIGNED_STACK" Bundle.steD A s' s'.heap := by rw [hhp]; exact vx_Zq.moved hW0.alike (hU.kept hS.2.1)
  have hN' : vx_Zq Bundle.tN "SUPPRESSED_SENTINEL" Bundle.listD A s' s'.heap := by rw [hhp]; exact vx_Zq.moved hW0.alike (hN.kept hS.2.1)
  have h : ∀ w ∈ Bundle.ownAtoms own ic cls names, w.before args s' = true := vx_own hat' (vx_isRefq hU'.1) (vx_isRefq hN'.1) hU'.2.word hN'.2.word
  have hown' : s'.vm.findClass own = some m.cls := by rw [hvm]; exact hown
  have hins : (Cond.instantiable cls 6).before args s' = true := h _ (by simp [Bundle.ownAtoms])
  obtain ⟨vm₁, cX, kX, hfX, hkX, -, -, X₁, st1⟩ := Y.newCold hexec (own := own) (C := cls) (index := ik) (n := 6) hown' hk' hins hini'
    (g := F0 m pc ls rest) rfl (by rw [hb]; exact d0) (Nat.le_refl _) (Nat.le_refl _)
  generalize hT1 : (T.setVm vm₁).pushCell { cls := cX, slots := kX.instanceTypes.map defaultValue, vm := .none } = T1 at X₁ st1
  have hcat : (Value.ref T.heap.size).category = 1 := rfl
  have hcellA : T1.heap[T.heap.size]? = some (freshCell cX kX) := by rw [← hT1]; exact State.heap_pushCell_size _ _
  have d3' : decode c.code (pc + 3) = .ok (.dup, 1) := by rw [hb]; exact d3
  have d4' : decode c.code (pc + 4) = .ok (.ldc is, 2) := by rw [hb]; exact d4
  have hstr' : vk_R own is text sa s' := vk_R.warm hW0 hstr
  obtain ⟨U, hsteps, hrun, hend, hW, hsame, ce, hce, hO⟩ := X₁.ctorThrowS hexec htr (own := own) (cls := cls) (names := names) (ic := ic) hown' hcls hnames h (fun x hx => nomatch hx) hfX hkX hcellA (by rw [hhp, hT]; exact Nat.le_refl _) (msg := .ref sa) rfl
    (g := { method := m, pc := pc + 6, locals := ls, stack := .ref sa :: .ref T.heap.size :: .ref T.heap.size :: rest, locked := none }) rfl hsize rfl rfl (rest := rest) rfl
    (by rw [hb]; exact d6) (by rw [hb]; exact d9) hout hRframes (by simp only [List.map_cons, List.sum_cons, hcat]; omega) hlocks
  obtain ⟨f1, f2⟩ := vx_frame hsame
  rw [hhp] at f1 f2
  have hWs : s.WarmedH U.vm := State.WarmedH.trans hW0 hW
  have hcl : s.vm.findClass cls = some ce.cls := by
    have h9 := hO.cls
    rw [hvm] at h9
    exact h9
  have hall : s.sameButNew ({ U with vm := s.vm } : State) locs mc ms := by
    subst hA
    obtain ⟨e1, e2⟩ := hsame
    rw [State.setFrames_setFrames] at e1
    have h2 : (T.setVm s.vm).sameButNew ({ U with vm := s.vm } : State) [] (0 + 1) (0 + 6) := ⟨e1, e2⟩
    have h3 := X.same.trans h2
    rw [List.append_nil] at h3
    exact h3.mono hc hs
  refine ⟨U, ?_, .threw T.heap.size, hrun, hend, Or.inr ⟨T.heap.size, rfl, cls, ce, locs, hx U hWs.alike f1 (fun q hq => f2 q hq (fun z hz => nomatch hz)), hce, hO.vm, hcl, hWs, hall, hf⟩⟩
  refine st1 _ ?_
  show Steps p.tables e below (T1.setTop { method := m, pc := pc + 3, locals := ls, stack := .ref T.heap.size :: rest, locked := none }) _
  jvm_step X₁.here [X₁.here.top, hexec, d3', Value.category]
  exact X₁.ldcString hexec (own := own) (text := text) (index := is) (a := sa) hown' hstr'.1 hstr'.2
    (g := { method := m, pc := pc + 4, locals := ls, stack := .ref T.heap.size :: .ref T.heap.size :: rest, locked := none }) rfl d4' _ hsteps
/-- 'throw new E("text")', the text by a wide index -/
theorem vx_throwSW {cc : ByteArray} {pc : Nat} (hexec : p.tables.exec = Jvm.exec) (hb : c.code = cc) (hl : l.stackTraces = false) {own cls text : String} {names : List String} {ik is ic mc ms sa : Nat} {A : Nat → Prop}
    (hown : s.vm.findClass own = some m.cls) (hcls : Bundle.fit cls = true) (hnames : ∀ n ∈ names, Bundle.fit n = true)
    (hk : (Cond.classLink own ik cls).before args s = true) (hini : (Cond.initialized cls).before args s = true) (hstr : vk_R own is text sa s) (hat : ∀ w ∈ vx_atS own ic cls names, w.before args s = true)
    (hgood : ∀ w ∈ Cond.classLink own ik cls :: Cond.initialized cls :: vx_atS own ic cls names, vx_ot w = true)
    (hU : vx_Zq Bundle.tN "UNASSIGNED_STACK" Bundle.steD A s s.heap) (hN : vx_Zq Bundle.tN "SUPPRESSED_SENTINEL" Bundle.listD A s s.heap) (hS : va_S A s.heap H locs) (hsize : ls.size = c.maxLocals)
    (d0 : decode cc pc = .ok (.new ik, 3)) (d3 : decode cc (pc + 3) = .ok (.dup, 1)) (d4 : decode cc (pc + 4) = .ok (.ldc_w is, 3)) (d7 : decode cc (pc + 7) = .ok (.invokespecial ic, 3)) (d10 : decode cc (pc + 10) = .ok (.athrow, 1))
    (hout : ∀ x ∈ c.exceptionTable.toList, covers x (pc + 10) = false)
    (hRframes : names.length + 3 < R.frames) (hRlocals : (rest.map fun v => v.category).sum + (13 * (names.length + 1) + 43) ≤ R.locals) (hRcells : cells + 1 ≤ R.cells) (hRslots : slots + 6 ≤ R.slots) (hlocks : meth.locks = false)
    (hx : ∀ t : State, s.vm.Alike t.vm → H.size ≤ t.heap.size → (∀ q : Nat, q < H.size → t.heap[q]? = H[q]?) → XC cls s t)
    (hf : ∀ z ∈ locs, free z.base) (hc : cells + 1 ≤ mc) (hs : slots + 6 ≤ ms) :
    W p l e R s m args below meth c H locs cells slots (vx_MQ below Qc XC args s mc ms free) (F0 m pc ls rest) := by
  intro T hT X
  have htr : e.platform.stackTraces = false := (show e.platform.stackTraces = l.stackTraces by rw [X.admits.platform]).trans hl
  have Y := vx_rebase X (R' := { frames := R.frames, locals := R.locals, cells := 1, slots := 6 }) (Nat.le_refl _) (Nat.le_refl _) hRcells hRslots
  obtain ⟨s', hA⟩ : ∃ z, z = (T.setVm s.vm).setFrames (.invoking m args :: below) := ⟨_, rfl⟩
  rw [← hA] at Y
  have hvm : s'.vm = s.vm := by rw [hA]; rfl
  have hhp : s'.heap = H := by rw [hA]; exact hT
  have hW0 : s.WarmedH s'.vm := by rw [hvm]; exact State.WarmedH.refl s
  have hat' : ∀ w ∈ vx_atS own ic cls names, w.before args s' = true := fun w hw => vx_ot_at hW0 hvm.symm (hgood w (List.mem_cons_of_mem _ (List.mem_cons_of_mem _ hw))) (hat w hw)
  have hk' : (Cond.classLink own ik cls).before args s' = true := vx_ot_at hW0 hvm.symm (hgood _ List.mem_cons_self) hk
  have hini' : (Cond.initialized cls).before args s' = true := vx_ot_at hW0 hvm.symm (hgood _ (List.mem_cons_of_mem _ List.mem_cons_self)) hini
  have hU' : vx_Zq Bundle.tN "UNASSIGNED_STACK" Bundle.steD A s' s'.heap := by rw [hhp]; exact vx_Zq.moved hW0.alike (hU.kept hS.2.1)
  have hN' : vx_Zq Bundle.tN "SUPPRESSED_SENTINEL" Bundle.listD A s' s'.heap := by rw [hhp]; exact vx_Zq.moved hW0.alike (hN.kept hS.2.1)
  have h : ∀ w ∈ Bundle.ownAtoms own ic cls names, w.before args s' = true := vx_own hat' (vx_isRefq hU'.1) (vx_isRefq hN'.1) hU'.2.word hN'.2.word
  have hown' : s'.vm.findClass own = some m.cls := by rw [hvm]; exact hown
  have hins : (Cond.instantiable cls 6).before args s' = true := h _ (by simp [Bundle.ownAtoms])
  obtain ⟨vm₁, cX, kX, hfX, hkX, -, -, X₁, st1⟩ := Y.newCold hexec (own := own) (C := cls) (index := ik) (n := 6) hown' hk' hins hini'
    (g := F0 m pc ls rest) rfl (by rw [hb]; exact d0) (Nat.le_refl _) (Nat.le_refl _)
  generalize hT1 : (T.setVm vm₁).pushCell { cls := cX, slots := kX.instanceTypes.map defaultValue, vm := .none } = T1 at X₁ st1
  have hcat : (Value.ref T.heap.size).category = 1 := rfl
  have hcellA : T1.heap[T.heap.size]? = some (freshCell cX kX) := by rw [← hT1]; exact State.heap_pushCell_size _ _
  have d3' : decode c.code (pc + 3) = .ok (.dup, 1) := by rw [hb]; exact d3
  have d4' : decode c.code (pc + 4) = .ok (.ldc_w is, 3) := by rw [hb]; exact d4
  have hstr' : vk_R own is text sa s' := vk_R.warm hW0 hstr
  obtain ⟨U, hsteps, hrun, hend, hW, hsame, ce, hce, hO⟩ := X₁.ctorThrowS hexec htr (own := own) (cls := cls) (names := names) (ic := ic) hown' hcls hnames h (fun x hx => nomatch hx) hfX hkX hcellA (by rw [hhp, hT]; exact Nat.le_refl _) (msg := .ref sa) rfl
    (g := { method := m, pc := pc + 7, locals := ls, stack := .ref sa :: .ref T.heap.size :: .ref T.heap.size :: rest, locked := none }) rfl hsize rfl rfl (rest := rest) rfl
    (by rw [hb]; exact d7) (by rw [hb]; exact d10) hout hRframes (by simp only [List.map_cons, List.sum_cons, hcat]; omega) hlocks
  obtain ⟨f1, f2⟩ := vx_frame hsame
  rw [hhp] at f1 f2
  have hWs : s.WarmedH U.vm := State.WarmedH.trans hW0 hW
  have hcl : s.vm.findClass cls = some ce.cls := by
    have h9 := hO.cls
    rw [hvm] at h9
    exact h9
  have hall : s.sameButNew ({ U with vm := s.vm } : State) locs mc ms := by
    subst hA
    obtain ⟨e1, e2⟩ := hsame
    rw [State.setFrames_setFrames] at e1
    have h2 : (T.setVm s.vm).sameButNew ({ U with vm := s.vm } : State) [] (0 + 1) (0 + 6) := ⟨e1, e2⟩
    have h3 := X.same.trans h2
    rw [List.append_nil] at h3
    exact h3.mono hc hs
  refine ⟨U, ?_, .threw T.heap.size, hrun, hend, Or.inr ⟨T.heap.size, rfl, cls, ce, locs, hx U hWs.alike f1 (fun q hq => f2 q hq (fun z hz => nomatch hz)), hce, hO.vm, hcl, hWs, hall, hf⟩⟩
  refine st1 _ ?_
  show Steps p.tables e below (T1.setTop { method := m, pc := pc + 3, locals := ls, stack := .ref T.heap.size :: rest, locked := none }) _
  jvm_step X₁.here [X₁.here.top, hexec, d3', Value.category]
  exact X₁.ldcStringW hexec (own := own) (text := text) (index := is) (a := sa) hown' hstr'.1 hstr'.2
    (g := { method := m, pc := pc + 4, locals := ls, stack := .ref T.heap.size :: .ref T.heap.size :: rest, locked := none }) rfl d4' _ hsteps
end Ends
section Bodies
variable {l : Launch}
theorem vx_ofW {y : MethodName} {ws ws' : List Cond} {rm : Room} {Pc : Array Value → State → Prop} {Qc : Array Value → State → Outcome → State → Prop} {XC : String → State → State → Prop} {mc ms : Nat} {free : Addr → Prop} {cc : ByteArray} {maxL : Nat} {ret : Option FieldType}
    (hy : plainName y.cls = true) (hw : ws = Cond.code y cc maxL ret :: ws')
    (body : ∀ p e s m args below meth c s₁, BodyLoose p l y (headSpec ws rm) cc maxL ret e s m args below meth c s₁ → c.maxLocals = maxL → (∀ x ∈ c.exceptionTable.toList, False) → Pc args s →
      W p l e (headSpec ws rm).room s m args below meth c s.heap [] 0 0 (vx_MQ below Qc XC args s mc ms free) (entryFrame m args maxL)) : vx_Met l y ws rm Pc Qc XC mc ms free := by
  refine MetFree.of_bodyS (code := cc) (maxLocals := maxL) (ret := ret) hy ?_ ?_
  · intro args s m h hn
    obtain ⟨meth, c, h1, h2, h3, h4, h5, h6, -, -⟩ := Cond.code_spec hn (atoms_spec (ws := ws) h _ (by rw [hw]; exact List.mem_cons_self))
    exact ⟨meth, c, h1, h2, h3, h4, h5, h6⟩
  · intro p e s m args below meth c s₁ B hml hP _
    have hh0 : s₁.heap = s.heap := by rw [B.state]; rfl
    have ht : ∀ x ∈ c.exceptionTable.toList, False := by
      obtain ⟨meth9, c9, h1, h2, -, -, -, -, h7, -⟩ := Cond.code_spec B.named (atoms_spec (ws := ws) B.pre _ (by rw [hw]; exact List.mem_cons_self))
      cases Option.some.inj (h1.symm.trans B.method)
      cases Option.some.inj (h2.symm.trans (Stand.of_body B).code)
      intro x hx
      rw [Array.isEmpty_iff.mp h7] at hx
      cases hx
    obtain ⟨t, a1, o, b1, b2, b3⟩ := body p e s m args below meth c s₁ B hml ht hP s₁ hh0 (Stand.of_body B)
    exact ⟨t, o, a1, b1, b2, b3⟩
/-- the table of a body with handlers -/
theorem vx_table {p : Program} {x y : MethodName} {S : Spec} {cc bytes : ByteArray} {maxL maxL' : Nat} {ret ret' : Option FieldType} {e : Env} {s s₁ : State} {m : MethodId} {args : Array Value} {below : List Frame} {meth : Method} {c : Code} {hh : List (Nat × Nat × Nat × Nat)}
    (B : BodyLoose p l y S cc maxL ret e s m args below meth c s₁) (h : (Cond.codeWith y bytes maxL' ret' hh).before args s = true) : c.exceptionTable.toList = tableOf hh := by
  obtain ⟨m9, meth9, c9, hn9, h1, h2, -, -, h6, -⟩ := Cond.codeWith_spec h
  cases Option.some.inj (hn9.symm.trans B.named)
  cases Option.some.inj (h1.symm.trans B.method)
  cases Option.some.inj (h2.symm.trans (Stand.of_body B).code)
  rw [← h6, table_eq]
end Bodies
end VXA
/-! ===== END ===== -/
/-! ===== BEGIN a static call of a method with an exception table ===== -/
section VXS
variable {p : Program} {l : Launch} {e : Env} {R : Room} {s : State} {m : MethodId} {args : Array Value} {below : List Frame} {meth : Method} {c : Code} {T : State} {H : Heap} {locs : List Loc} {cells slots : Nat}
abbrev vx_CSW (R : Room) (s : State) (args : Array Value) (own : String) (index : Nat) (y : MethodName) (bytes : ByteArray) (maxL : Nat) (ret : Option FieldType) (hh : List (Nat × Nat × Nat × Nat)) (ws : List Cond) (rm : Room) (mc ms n : Nat) : Prop :=
  (rm.cells = mc ∧ rm.slots = ms ∧ rm.frames + 1 ≤ R.frames ∧ 8 + (maxL + 11) + rm.locals ≤ R.locals ∧ (∀ w ∈ ws, ∀ (a' : Array Value) (U : State), s.WarmedH U.vm → w.before a' U = true) ∧ Cond.codeWith y bytes maxL ret hh ∈ ws) ∧
  (Cond.codeWith y bytes maxL ret hh).before args s = true ∧ (Cond.initialized y.cls).before args s = true ∧ (y.cls ≠ "java/lang/invoke/MethodHandle" ∧ y.cls ≠ "java/lang/invoke/VarHandle") ∧
  (∀ sig, parseMethodDescriptor y.desc = some sig → n = sig.parameters.length) ∧ (Cond.methodLink own index y).before args s = true ∧ (Cond.static y).before args s = true
theorem vx_cwSW {own : String} {index maxL mc ms : Nat} {y : MethodName} {bytes : ByteArray} {ret : Option FieldType} {hh : List (Nat × Nat × Nat × Nat)} {Ts ws ws' : List Cond} {rm : Room} (n : Nat) (ht : ∀ w ∈ Ts, w.before args s = true) (hT : GoodIn Ts (va_wsS own index y ws)) (hw : ws = Cond.codeWith y bytes maxL ret hh :: ws') (hrc : rm.cells = mc) (hrs : rm.slots = ms)
    (hd : y.cls ≠ "java/lang/invoke/MethodHandle" ∧ y.cls ≠ "java/lang/invoke/VarHandle" ∧ (parseMethodDescriptor y.desc).map (fun d => d.parameters.length) = some n) (hR : rm.frames + 1 ≤ R.frames ∧ 8 + (maxL + 11) + rm.locals ≤ R.locals) :
    vx_CSW R s args own index y bytes maxL ret hh ws rm mc ms n := by
  have ok : ∀ w ∈ va_wsS own index y ws, w.before args s = true := fun w h => ht w (hT w h).1
  have hG : GoodIn Ts ws := fun w h => hT w (by unfold va_wsS; exact List.mem_append_right _ h)
  have hc : Cond.codeWith y bytes maxL ret hh ∈ ws := by rw [hw]; exact List.mem_cons_self
  refine ⟨⟨hrc, hrs, hR.1, hR.2, pay_in ht hG, hc⟩, ht _ (hG _ hc).1, ok _ (by simp [va_wsS]), ⟨hd.1, hd.2.1⟩, fun sig h => ?_, ok _ (by simp [va_wsS]), ok _ (by simp [va_wsS])⟩
  have h2 := hd.2.2
  rw [h] at h2
  exact (Option.some.inj h2).symm
theorem vx_callSW (X : Stand p l e R s m args below meth c T locs cells slots) (hexec : p.tables.exec = Jvm.exec) {own : String} {index : Nat} {y : MethodName} {bytes : ByteArray} {maxL : Nat} {ret : Option FieldType} {hh : List (Nat × Nat × Nat × Nat)}
    (hown : s.vm.findClass own = some m.cls) (hlink : (Cond.methodLink own index y).before args s = true) (hstat : (Cond.static y).before args s = true) (hinit : (Cond.initialized y.cls).before args s = true)
    (hcode : (Cond.codeWith y bytes maxL ret hh).before args s = true) (hy : y.cls ≠ "java/lang/invoke/MethodHandle" ∧ y.cls ≠ "java/lang/invoke/VarHandle")
    {W9 : Nat} {Pre : Pt → Array Value → Prop} {Post : Pt → Array Value → Option Value → Pt → Prop} (hK : Back l R p e below s args y 3 W9 Pre Post)
    {g : JFrame} (hg : g.method = m) (hsize : g.locals.size = c.maxLocals) {argsL rest : List Value} (hlen : ∀ sig, parseMethodDescriptor y.desc = some sig → argsL.length = sig.parameters.length)
    (hstack : g.stack = argsL.reverse ++ rest) (hW : 2 * g.monitorRoom + (rest.map fun v => v.category).sum ≤ W9) (hdg : decode c.code g.pc = .ok (.invokestatic index, 3))
    (hpre : ∀ vm₁, s.WarmedH vm₁ → Pre ⟨T.setVm vm₁, locs, cells, slots⟩ argsL.toArray) :
    ∃ (v : Option Value) (vm₁ : Vm) (B : Pt), s.WarmedH vm₁ ∧ Stand p l e R s m args below meth c B.U B.locs B.cells B.slots ∧ Post ⟨T.setVm vm₁, locs, cells, slots⟩ argsL.toArray v B ∧
      ∀ target, Steps p.tables e below (B.U.setTop { g with pc := g.pc + 3, stack := v.toList ++ rest }) target → Steps p.tables e below (T.setTop g) target := by
  obtain ⟨mk, methM, cM, hnamed, hmethM, -, -, -, -, -, -, hsigM⟩ := Cond.codeWith_spec hcode
  have hstatic : methM.isStatic = true := Cond.static_spec hnamed hmethM hstat
  obtain ⟨kP, hkP, -⟩ := className_of_methodNamed hnamed
  have hinitP : kP.init = .initialized := Cond.initialized_spec (findClass_of_methodNamed hnamed) hkP hinit
  obtain ⟨vm₁, X₁, hstep₁⟩ := X.invokestatic hexec hown hlink hnamed hmethM hstatic hkP hinitP hy (g := g) hg (argsL := argsL) (rest := rest) (hlen _ hsigM) hstack hdg
  obtain ⟨v, B, X', hpost, hsteps⟩ := hK m meth c ⟨T.setVm vm₁, locs, cells, slots⟩ { g with stack := rest } (.invokestatic index) mk argsL.toArray X₁ hg hsize hdg hW (X₁.named hnamed) (hpre vm₁ X₁.warmed)
  exact ⟨v, vm₁, B, X₁.warmed, X', hpost, fun target h => hstep₁ _ fun acts => by rw [doInvoke_state]; exact hsteps.trans h⟩
theorem vx_runSW {y : MethodName} {bytes cc : ByteArray} {maxL nL mc ms n index : Nat} {ret : Option FieldType} {hh : List (Nat × Nat × Nat × Nat)} {ws : List Cond} {rm : Room} {Pc : Array Value → State → Prop} {Qc : Array Value → State → Outcome → State → Prop} {free : Addr → Prop} {Ts : List Cond} {own : String} {As rest : List Value} {g : JFrame}
    (S : CallFix p m c cc nL s args Ts own) (hM : Met l y ws rm Pc Qc mc ms free) (cw : vx_CSW R s args own index y bytes maxL ret hh ws rm mc ms n) (hp : PreS s H Pc As)
    (hg : g.method = m) (hn : As.length = n) (hsize : g.locals.size = nL) (hstack : g.stack = As.reverse ++ rest) (hW : 2 * g.monitorRoom + (rest.map fun v => v.category).sum ≤ 8) (hdg : decode cc g.pc = .ok (.invokestatic index, 3)) (hf : cells + mc ≤ R.cells ∧ slots + ms ≤ R.slots) :
    va_Run p l e R s m args below meth c H locs cells slots mc ms g rest (Qc As.toArray) (free) := by
  obtain ⟨⟨hrc, hrs, hfr, hlo, hws, hcw⟩, hcode, hini, hy, hlen, hl, hstt⟩ := cw
  have hK : Back l R p e below s args y 3 8 (PreOf R mc ms Pc) (PostOf Qc mc ms free) := va_backW (hh := hh) (bytes := bytes) (maxL := maxL) (ret := ret) hM hp.1 hrc hrs hfr hlo hws hcw (fun a' U hW => word_at hW (Or.inl (by first | rfl | simp [Cond.onTables, Cond.keeps, Cond.steady])) hini)
  obtain ⟨hx, hb, hml, ho, -⟩ := S
  intro T hT X
  obtain ⟨v, vm₁, ⟨U', l2, c2, s2⟩, hW₁, X', ⟨g', mk, t, L, e1, e2, hq, h1, hL, h2, h3⟩, st⟩ := vx_callSW X hx (hh := hh) (bytes := bytes) (maxL := maxL) (ret := ret) ho hl hstt hini hcode hy hK hg (hsize.trans hml.symm) (argsL := As) (rest := rest) (fun sig h => hn.trans (hlen sig h)) hstack hW (by rw [hb]; exact hdg)
    (fun vm₁ hW₁ => ⟨hf.1, hf.2, hp.2 (T.setVm vm₁) hT hW₁⟩)
  dsimp only [Pt.U, Pt.locs, Pt.cells, Pt.slots] at X' e1 e2 h1 h2 h3 st
  subst h1; subst h2; subst h3
  exact ⟨v, (T.setVm vm₁).calling g' mk As.toArray, t, U', L, hT, X', hL, e1, e2, hq, st⟩
/-- not caught here, past rows that name other classes: it goes on to the caller -/
theorem vx_outP {p : Program} {l : Launch} {e : Env} {R : Room} {s : State} {m : MethodId} {args : Array Value} {below : List Frame} {meth : Method} {c : Code} {H : Heap} {locs : List Loc} {cells slots : Nat} {free : Addr → Prop} {ls : Array Slot} {rest : List Value} {Qc : Array Value → State → Outcome → State → Prop} {XC : String → State → State → Prop}
    {pc : Nat} {own E : String} {ce : Cell} {q : Addr} {mc ms : Nat} (hown : s.vm.findClass own = some m.cls) (hlocks : meth.locks = false)
    (hpass : ∀ z ∈ c.exceptionTable.toList, covers z pc = false ∨ (z.catchType ≠ 0 ∧ ∃ nm : String, (Cond.classLink own z.catchType nm).before args s = true ∧ va_Nc E nm s)) (hcell : H[q]? = some ce) (hv : ce.vm = .none) (hcl : s.vm.findClass E = some ce.cls)
    (hx : ∀ t : State, t.heap = H → s.vm.Alike t.vm → XC E s t) (hf : ∀ z ∈ locs, free z.base) (hc : cells ≤ mc) (hs : slots ≤ ms) :
    vx_W p l e R s m args below meth c H locs cells slots (vx_MQ below Qc XC args s mc ms free) (F0 m pc ls rest) q := by
  intro T hT X
  have hpl : e.platform.magicAccessors = ({} : Platform).magicAccessors := by rw [X.admits.platform]
  obtain ⟨vm', hW', X', st⟩ := X.outThrough hlocks q (g := F0 m pc ls rest) rfl rfl rfl (cell := ce) (by rw [hT]; exact hcell) (by rw [hv]; rfl)
    (by obtain ⟨k9, h9, -⟩ := Vm.findClass_spec hcl; exact ⟨k9, h9⟩) (fun z hz => by
      rcases hpass z hz with h | ⟨hz0, nm, hl1, hn1⟩
      · exact Or.inl h
      · obtain ⟨c6, hc6, hcl6⟩ := Cond.classLink_spec hown hl1 e.platform hpl
        obtain ⟨a8, b8, h1, h2, h3⟩ := hn1
        cases Option.some.inj (h1.symm.trans hcl)
        cases Option.some.inj (h2.symm.trans hc6)
        exact Or.inr ⟨hz0, _, hcl6, h3⟩)
  obtain ⟨g₀, hfr⟩ := X'.frames_eq
  have hcell9 : ((T.setVm vm').setFrames (.throwing q :: below)).heap[q]? = some ce := by
    show T.heap[q]? = some ce
    rw [hT]; exact hcell
  have hend : Ended ((T.setVm vm').setFrames (.throwing q :: below)) below (.threw q) := State.frames_setFrames _ (State.cur_lt_of_frames hfr)
  refine ⟨(T.setVm vm').setFrames (.throwing q :: below), ?_, .threw q, X'.here.running, hend, Or.inr ⟨q, rfl, E, ce, locs, hx _ hT (X'.ends _).1.alike, hcell9, hv, hcl, (X'.ends _).1, (X'.ends _).2.mono hc hs, hf⟩⟩
  rw [X.pushThrowing_eq]
  exact st
/-- a thing of a world lies in the heap -/
theorem vx_lt {D : va_G} {cl : List vw_C} {ws : va_W} {H1 : Heap} (h : va_P D cl ws H1) {k : Nat} {q : Nat × va_E} (hk : ws[k]? = some q) : q.1 < H1.size := (h k q hk).lt
end VXS
/-! ===== END ===== -/
/-! ===== BEGIN methods with a table of their own: called by a name, returning or throwing ===== -/
section VXH
/-! vx_backW, vx_callVX, vx_callSX, vx_callVW, vx_runVW, vx_runVX, vx_runSX, vx_ofWH follow the same proofs as their sisters above (Free/Laws.lean, Shelf42/LK1.lean); vx_outP calls Shelf42/NT130.lean (outThrough). -/
section
variable {l : Launch} {R : Room} {p : Program} {e : Env} {below : List Frame} {s : State} {sargs : Array Value} {y : MethodName} {len W9 : Nat}
theorem vx_backW {ws : List Cond} {rm : Room} {Pc : Array Value → State → Prop} {Qc : Array Value → State → Outcome → State → Prop} {XC : String → State → State → Prop} {mc ms : Nat} {free : Addr → Prop} {bytes : ByteArray} {maxL : Nat} {ret : Option FieldType} {hh : List (Nat × Nat × Nat × Nat)}
    (hM : vx_Met l y ws rm Pc Qc XC mc ms free) (hblind : FrameBlind Pc) (hrc : rm.cells = mc) (hrs : rm.slots = ms)
    (hframes : rm.frames + 1 ≤ R.frames) (hlocals : W9 + (maxL + 11) + rm.locals ≤ R.locals)
    (hws : ∀ w ∈ ws, ∀ a' U, s.WarmedH U.vm → w.before a' U = true) (hcode : Cond.codeWith y bytes maxL ret hh ∈ ws) (hinit : ∀ a' U, s.WarmedH U.vm → (Cond.initialized y.cls).before a' U = true) :
    vx_Back l R p e below s sargs y len W9 (PreOf R mc ms Pc) (PostOf Qc mc ms free) (vx_Post XC mc ms free) := by
  intro m meth c A g ig mk a X hg hsize hdg hW hn hp
  have h1 : (headSpec ws rm).pre.before a A.U = true := atoms_intro fun w hw => hws w hw _ _ X.warmed
  have h2 : (Cond.codeWith y bytes maxL ret hh).before a A.U = true := hws _ hcode _ _ X.warmed
  have h3 : (Cond.initialized y.cls).before a A.U = true := hinit _ _ X.warmed
  have h4 : A.cells + (headSpec ws rm).room.cells ≤ R.cells := by rw [show (headSpec ws rm).room.cells = mc from hrc]; exact hp.1
  have h5 : A.slots + (headSpec ws rm).room.slots ≤ R.slots := by rw [show (headSpec ws rm).room.slots = ms from hrs]; exact hp.2.1
  have hPc : Pc a (A.U.calling g mk a) := hblind _ _ _ _ hp.2.2
  obtain ⟨U, Ls, c0, s0⟩ := A
  dsimp only [Pt.U, Pt.locs, Pt.cells, Pt.slots] at h1 h2 h3 h4 h5 X hn hPc ⊢
  obtain ⟨m9, methY, cY, hn9, hmY, hcY, -, hlY, -⟩ := Cond.codeWith_spec h2
  cases Option.some.inj (hn9.symm.trans hn)
  obtain ⟨kY, hkY, -⟩ := className_of_methodNamed hn
  have hinitY : kY.init = .initialized := Cond.initialized_spec (findClass_of_methodNamed hn) hkY h3
  have h : At U g.method c below := by rw [hg]; exact X.here
  have hlocals9 : W9 + (maxL + 11) + (headSpec ws rm).room.locals ≤ R.locals := hlocals
  have happ : (headSpec ws rm).appliesLoose y e.platform (U.calling g mk a) = true :=
    Spec.appliesLoose_calling (g := g) h hdg hn hkY hinitY
      (X.room_calling (g := g) (R' := (headSpec ws rm).room) hsize hmY hcY hframes (by rw [hlY]; omega) h4 h5) h1
  obtain ⟨mid, hmid⟩ := h.above
  have hfr : (U.setTop g).frames = (.java g :: mid) ++ below := by rw [State.frames_setTop' g h.top, hmid]; rfl
  obtain ⟨o, s₂, hsteps, -, hend, hq⟩ := Steps.callFree hM p X.admits X.cas X.clock (acts := []) hfr happ hPc trivial
  have hq' : vx_Q Qc XC mc ms free a (U.calling g mk a) o s₂ := hq
  rw [State.frames_setTop' g h.top] at hend
  obtain ⟨g₀, hg0⟩ := Option.isSome_iff_exists.mp h.top
  obtain ⟨r, hr⟩ := State.topJava?_eq_some.mp hg0
  have hr' : (({ U with heap := s₂.heap, slotsUsed := s₂.slotsUsed } : State).setVm s₂.vm).frames = .java g₀ :: r := hr
  rcases hq' with ⟨hqc, L, hfe, hL⟩ | ⟨q, rfl, E, ce, L, hx, hce, hcv, hcl, hW₂, hsm, hL⟩
  · obtain ⟨⟨v, rfl⟩, hW₂, e2, q2, q3, q4, q5, q6⟩ := id hfe
    have e3 : s₂ = ({ (U.calling g mk a).setFrames s₂.frames with heap := s₂.heap, slotsUsed := s₂.slotsUsed } : State).setVm s₂.vm := by
      have : s₂ = ({ s₂ with vm := (U.calling g mk a).vm } : State).setVm s₂.vm := rfl
      rw [e2] at this
      exact this
    obtain ⟨c₂, i₂, len₂, hc₂, hd₂, hf₂⟩ := hend
    have hW' : U.WarmedH s₂.vm := hW₂
    have hcc : c₂ = c := by
      have h1 : s₂.code? g.method = U.code? g.method := by
        rw [State.code?_eq, State.code?_eq, hW'.alike.method?]
      exact Option.some.inj (hc₂.symm.trans (h1.trans h.code))
    subst hcc
    have hlen : len₂ = len := by rw [hdg] at hd₂; cases hd₂; rfl
    subst hlen
    have hs₂ : s₂ = (({ U with heap := s₂.heap, slotsUsed := s₂.slotsUsed } : State).setVm s₂.vm).setTop { g with pc := g.pc + len₂, stack := v.toList ++ g.stack } := by
      refine e3.trans ?_
      rw [hf₂, State.calling_eq h.top, State.setFrames_setFrames, State.setTop_of_frames _ hr', hr]
      rfl
    have hsame : U.sameButNew ({ U with heap := s₂.heap, slotsUsed := s₂.slotsUsed } : State) L mc ms := by
      refine ⟨?_, q2, q3, q4, q5, q6⟩
      obtain ⟨t, ht, -⟩ := State.frames_cons hr
      show ({ U with heap := s₂.heap, slotsUsed := s₂.slotsUsed } : State) = { U.setFrames U.frames with heap := s₂.heap, slotsUsed := s₂.slotsUsed }
      rw [State.setFrames_self ht]
    subst hg
    refine Or.inl ⟨v, ⟨(({ U with heap := s₂.heap, slotsUsed := s₂.slotsUsed } : State).setVm s₂.vm), Ls ++ L, c0 + mc, s0 + ms⟩,
      ⟨X.admits, X.cas, X.clock, X.frames, X.room, X.hears, X.method, X.code, (X.here.setHeapUsed s₂.heap s₂.slotsUsed).setVm hW'.alike, X.tail, State.WarmedH.trans X.warmed hW', X.limits, X.bytes, X.same.trans (hsame.setVm s.vm)⟩,
      ⟨g, mk, s₂, L, rfl, rfl, hqc, rfl, hL, rfl, rfl⟩, ?_⟩
    show Steps p.tables e below _ ((({ U with heap := s₂.heap, slotsUsed := s₂.slotsUsed } : State).setVm s₂.vm).setTop { g with pc := g.pc + len₂, stack := v.toList ++ g.stack })
    rw [← hs₂]
    exact hsteps
  · obtain ⟨e2, q2, q3, q4, q5, q6⟩ := id hsm
    have e3 : s₂ = ({ (U.calling g mk a).setFrames s₂.frames with heap := s₂.heap, slotsUsed := s₂.slotsUsed } : State).setVm s₂.vm := by
      have : s₂ = ({ s₂ with vm := (U.calling g mk a).vm } : State).setVm s₂.vm := rfl
      rw [e2] at this
      exact this
    have hf₂ : s₂.frames = .throwing q :: .java g :: U.frames.tail := hend
    have hW' : U.WarmedH s₂.vm := hW₂
    have hs₂ : s₂ = ((({ U with heap := s₂.heap, slotsUsed := s₂.slotsUsed } : State).setVm s₂.vm).setTop g).pushFrame (.throwing q) := by
      refine e3.trans ?_
      rw [hf₂, State.calling_eq h.top, State.setFrames_setFrames, State.pushFrame, State.frames_setTop _ hr', State.setTop_of_frames _ hr', State.setFrames_setFrames, hr]
      rfl
    have hsame : U.sameButNew ({ U with heap := s₂.heap, slotsUsed := s₂.slotsUsed } : State) L mc ms := by
      refine ⟨?_, q2, q3, q4, q5, q6⟩
      obtain ⟨t, ht, -⟩ := State.frames_cons hr
      show ({ U with heap := s₂.heap, slotsUsed := s₂.slotsUsed } : State) = { U.setFrames U.frames with heap := s₂.heap, slotsUsed := s₂.slotsUsed }
      rw [State.setFrames_self ht]
    subst hg
    refine Or.inr ⟨q, ⟨(({ U with heap := s₂.heap, slotsUsed := s₂.slotsUsed } : State).setVm s₂.vm), Ls ++ L, c0 + mc, s0 + ms⟩,
      ⟨X.admits, X.cas, X.clock, X.frames, X.room, X.hears, X.method, X.code, (X.here.setHeapUsed s₂.heap s₂.slotsUsed).setVm hW'.alike, X.tail, State.WarmedH.trans X.warmed hW', X.limits, X.bytes, X.same.trans (hsame.setVm s.vm)⟩,
      ⟨g, mk, s₂, L, E, ce, rfl, rfl, hx, hce, hcv, hcl, rfl, hL, rfl, rfl⟩, ?_⟩
    show Steps p.tables e below _ (((({ U with heap := s₂.heap, slotsUsed := s₂.slotsUsed } : State).setVm s₂.vm).setTop g).pushFrame (.throwing q))
    rw [← hs₂]
    exact hsteps
end
variable {p : Program} {l : Launch} {e : Env} {R : Room} {s : State} {m : MethodId} {args : Array Value} {below : List Frame} {meth : Method} {c : Code} {T : State} {H : Heap} {locs : List Loc} {cells slots : Nat}
theorem vx_callVX (X : Stand p l e R s m args below meth c T locs cells slots) (hexec : p.tables.exec = Jvm.exec) {own C : String} {index : Nat} {y : MethodName} {bytes : ByteArray} {maxL : Nat} {ret : Option FieldType} {hh : List (Nat × Nat × Nat × Nat)}
    (hown : s.vm.findClass own = some m.cls) (hlink : (Cond.methodLink own index y).before args s = true) (hinst : (Cond.instanceMethod y).before args s = true) (hsel : (Cond.selects C y y).before args s = true)
    (hcode : (Cond.codeWith y bytes maxL ret hh).before args s = true) (hy : y.cls ≠ "java/lang/invoke/MethodHandle" ∧ y.cls ≠ "java/lang/invoke/VarHandle")
    {W9 : Nat} {Pre : Pt → Array Value → Prop} {Post : Pt → Array Value → Option Value → Pt → Prop} {PostX : Pt → Array Value → Addr → Pt → Prop} (hK : vx_Back l R p e below s args y 3 W9 Pre Post PostX)
    {b : Addr} {cellB : Cell} (hcell : T.heap[b]? = some cellB) (hobj : cellB.vm.isStatics = false) (hcls : s.vm.findClass C = some cellB.cls)
    {g : JFrame} (hg : g.method = m) (hsize : g.locals.size = c.maxLocals) {argsL rest : List Value} (hlen : ∀ sig, parseMethodDescriptor y.desc = some sig → argsL.length = sig.parameters.length)
    (hstack : g.stack = argsL.reverse ++ .ref b :: rest) (hW : 2 * g.monitorRoom + (rest.map fun v => v.category).sum ≤ W9) (hdg : decode c.code g.pc = .ok (.invokevirtual index, 3))
    (hpre : ∀ vm₁, s.WarmedH vm₁ → Pre ⟨T.setVm vm₁, locs, cells, slots⟩ (Value.ref b :: argsL).toArray) :
    (∃ (v : Option Value) (vm₁ : Vm) (B : Pt), s.WarmedH vm₁ ∧ Stand p l e R s m args below meth c B.U B.locs B.cells B.slots ∧ Post ⟨T.setVm vm₁, locs, cells, slots⟩ (Value.ref b :: argsL).toArray v B ∧
      ∀ target, Steps p.tables e below (B.U.setTop { g with pc := g.pc + 3, stack := v.toList ++ rest }) target → Steps p.tables e below (T.setTop g) target) ∨
    (∃ (q : Addr) (vm₁ : Vm) (B : Pt), s.WarmedH vm₁ ∧ Stand p l e R s m args below meth c B.U B.locs B.cells B.slots ∧ PostX ⟨T.setVm vm₁, locs, cells, slots⟩ (Value.ref b :: argsL).toArray q B ∧
      Steps p.tables e below (T.setTop g) ((B.U.setTop { g with stack := rest }).pushFrame (.throwing q))) := by
  obtain ⟨mk, methM, hnamed, hmethM, hstM, habM⟩ := Cond.instanceMethod_spec hinst
  obtain ⟨m8, methM', cM, hn8, hmethM', -, -, -, -, -, -, hsigM⟩ := Cond.codeWith_spec hcode
  cases Option.some.inj (hn8.symm.trans hnamed)
  cases hmethM.symm.trans hmethM'
  obtain ⟨c2, r2, m2, q1, q2, q3, q4, kP, hkP, hkPi⟩ := Cond.selects_spec hsel
  cases hcls.symm.trans q1
  cases (State.methodFound?_of_named hnamed hy).symm.trans q2
  cases hnamed.symm.trans q3
  have hselP : selectMethod e.platform s.vm cellB.cls mk = .method mk := by rw [Launch.admits_selectMethod X.admits]; exact q4
  obtain ⟨vm₁, X₁, hstep₁⟩ := X.invokevirtual hexec hown hlink hnamed hmethM hstM hkP hkPi hy (a := b) (cell := cellB) hcell
    (fun z h => by rw [h] at hobj; cases hobj) hselP hmethM habM hkP hkPi (g := g) hg (argsL := argsL) (rest := rest) (hlen _ hsigM) hstack hdg
  rcases hK m meth c ⟨T.setVm vm₁, locs, cells, slots⟩ { g with stack := rest } (.invokevirtual index) mk (Value.ref b :: argsL).toArray X₁ hg hsize hdg hW (X₁.named hnamed) (hpre vm₁ X₁.warmed) with ⟨v, B, X', hpost, hsteps⟩ | ⟨q, B, X', hpost, hsteps⟩
  · exact Or.inl ⟨v, vm₁, B, X₁.warmed, X', hpost, fun target h => hstep₁ _ fun acts => by rw [doInvoke_state]; exact hsteps.trans h⟩
  · exact Or.inr ⟨q, vm₁, B, X₁.warmed, X', hpost, hstep₁ _ fun acts => by rw [doInvoke_state]; exact hsteps⟩
theorem vx_callSX (X : Stand p l e R s m args below meth c T locs cells slots) (hexec : p.tables.exec = Jvm.exec) {own : String} {index : Nat} {y : MethodName} {bytes : ByteArray} {maxL : Nat} {ret : Option FieldType} {hh : List (Nat × Nat × Nat × Nat)}
    (hown : s.vm.findClass own = some m.cls) (hlink : (Cond.methodLink own index y).before args s = true) (hstat : (Cond.static y).before args s = true) (hinit : (Cond.initialized y.cls).before args s = true)
    (hcode : (Cond.codeWith y bytes maxL ret hh).before args s = true) (hy : y.cls ≠ "java/lang/invoke/MethodHandle" ∧ y.cls ≠ "java/lang/invoke/VarHandle")
    {W9 : Nat} {Pre : Pt → Array Value → Prop} {Post : Pt → Array Value → Option Value → Pt → Prop} {PostX : Pt → Array Value → Addr → Pt → Prop} (hK : vx_Back l R p e below s args y 3 W9 Pre Post PostX)
    {g : JFrame} (hg : g.method = m) (hsize : g.locals.size = c.maxLocals) {argsL rest : List Value} (hlen : ∀ sig, parseMethodDescriptor y.desc = some sig → argsL.length = sig.parameters.length)
    (hstack : g.stack = argsL.reverse ++ rest) (hW : 2 * g.monitorRoom + (rest.map fun v => v.category).sum ≤ W9) (hdg : decode c.code g.pc = .ok (.invokestatic index, 3))
    (hpre : ∀ vm₁, s.WarmedH vm₁ → Pre ⟨T.setVm vm₁, locs, cells, slots⟩ argsL.toArray) :
    (∃ (v : Option Value) (vm₁ : Vm) (B : Pt), s.WarmedH vm₁ ∧ Stand p l e R s m args below meth c B.U B.locs B.cells B.slots ∧ Post ⟨T.setVm vm₁, locs, cells, slots⟩ argsL.toArray v B ∧
      ∀ target, Steps p.tables e below (B.U.setTop { g with pc := g.pc + 3, stack := v.toList ++ rest }) target → Steps p.tables e below (T.setTop g) target) ∨
    (∃ (q : Addr) (vm₁ : Vm) (B : Pt), s.WarmedH vm₁ ∧ Stand p l e R s m args below meth c B.U B.locs B.cells B.slots ∧ PostX ⟨T.setVm vm₁, locs, cells, slots⟩ argsL.toArray q B ∧
      Steps p.tables e below (T.setTop g) ((B.U.setTop { g with stack := rest }).pushFrame (.throwing q))) := by
  obtain ⟨mk, methM, cM, hnamed, hmethM, -, -, -, -, -, -, hsigM⟩ := Cond.codeWith_spec hcode
  have hstatic : methM.isStatic = true := Cond.static_spec hnamed hmethM hstat
  obtain ⟨kP, hkP, -⟩ := className_of_methodNamed hnamed
  have hinitP : kP.init = .initialized := Cond.initialized_spec (findClass_of_methodNamed hnamed) hkP hinit
  obtain ⟨vm₁, X₁, hstep₁⟩ := X.invokestatic hexec hown hlink hnamed hmethM hstatic hkP hinitP hy (g := g) hg (argsL := argsL) (rest := rest) (hlen _ hsigM) hstack hdg
  rcases hK m meth c ⟨T.setVm vm₁, locs, cells, slots⟩ { g with stack := rest } (.invokestatic index) mk argsL.toArray X₁ hg hsize hdg hW (X₁.named hnamed) (hpre vm₁ X₁.warmed) with ⟨v, B, X', hpost, hsteps⟩ | ⟨q, B, X', hpost, hsteps⟩
  · exact Or.inl ⟨v, vm₁, B, X₁.warmed, X', hpost, fun target h => hstep₁ _ fun acts => by rw [doInvoke_state]; exact hsteps.trans h⟩
  · exact Or.inr ⟨q, vm₁, B, X₁.warmed, X', hpost, hstep₁ _ fun acts => by rw [doInvoke_state]; exact hsteps⟩
theorem vx_callVW (X : Stand p l e R s m args below meth c T locs cells slots) (hexec : p.tables.exec = Jvm.exec) {own C : String} {index : Nat} {y : MethodName} {bytes : ByteArray} {maxL : Nat} {ret : Option FieldType} {hh : List (Nat × Nat × Nat × Nat)}
    (hown : s.vm.findClass own = some m.cls) (hlink : (Cond.methodLink own index y).before args s = true) (hinst : (Cond.instanceMethod y).before args s = true) (hsel : (Cond.selects C y y).before args s = true)
    (hcode : (Cond.codeWith y bytes maxL ret hh).before args s = true) (hy : y.cls ≠ "java/lang/invoke/MethodHandle" ∧ y.cls ≠ "java/lang/invoke/VarHandle")
    {W9 : Nat} {Pre : Pt → Array Value → Prop} {Post : Pt → Array Value → Option Value → Pt → Prop} (hK : Back l R p e below s args y 3 W9 Pre Post)
    {b : Addr} {cellB : Cell} (hcell : T.heap[b]? = some cellB) (hobj : cellB.vm.isStatics = false) (hcls : s.vm.findClass C = some cellB.cls)
    {g : JFrame} (hg : g.method = m) (hsize : g.locals.size = c.maxLocals) {argsL rest : List Value} (hlen : ∀ sig, parseMethodDescriptor y.desc = some sig → argsL.length = sig.parameters.length)
    (hstack : g.stack = argsL.reverse ++ .ref b :: rest) (hW : 2 * g.monitorRoom + (rest.map fun v => v.category).sum ≤ W9) (hdg : decode c.code g.pc = .ok (.invokevirtual index, 3))
    (hpre : ∀ vm₁, s.WarmedH vm₁ → Pre ⟨T.setVm vm₁, locs, cells, slots⟩ (Value.ref b :: argsL).toArray) :
    ∃ (v : Option Value) (vm₁ : Vm) (B : Pt), s.WarmedH vm₁ ∧ Stand p l e R s m args below meth c B.U B.locs B.cells B.slots ∧ Post ⟨T.setVm vm₁, locs, cells, slots⟩ (Value.ref b :: argsL).toArray v B ∧
      ∀ target, Steps p.tables e below (B.U.setTop { g with pc := g.pc + 3, stack := v.toList ++ rest }) target → Steps p.tables e below (T.setTop g) target := by
  obtain ⟨mk, methM, hnamed, hmethM, hstM, habM⟩ := Cond.instanceMethod_spec hinst
  obtain ⟨m8, methM', cM, hn8, hmethM', -, -, -, -, -, -, hsigM⟩ := Cond.codeWith_spec hcode
  cases Option.some.inj (hn8.symm.trans hnamed)
  cases hmethM.symm.trans hmethM'
  obtain ⟨c2, r2, m2, q1, q2, q3, q4, kP, hkP, hkPi⟩ := Cond.selects_spec hsel
  cases hcls.symm.trans q1
  cases (State.methodFound?_of_named hnamed hy).symm.trans q2
  cases hnamed.symm.trans q3
  have hselP : selectMethod e.platform s.vm cellB.cls mk = .method mk := by rw [Launch.admits_selectMethod X.admits]; exact q4
  obtain ⟨vm₁, X₁, hstep₁⟩ := X.invokevirtual hexec hown hlink hnamed hmethM hstM hkP hkPi hy (a := b) (cell := cellB) hcell
    (fun z h => by rw [h] at hobj; cases hobj) hselP hmethM habM hkP hkPi (g := g) hg (argsL := argsL) (rest := rest) (hlen _ hsigM) hstack hdg
  obtain ⟨v, B, X', hpost, hsteps⟩ := hK m meth c ⟨T.setVm vm₁, locs, cells, slots⟩ { g with stack := rest } (.invokevirtual index) mk (Value.ref b :: argsL).toArray X₁ hg hsize hdg hW (X₁.named hnamed) (hpre vm₁ X₁.warmed)
  exact ⟨v, vm₁, B, X₁.warmed, X', hpost, fun target h => hstep₁ _ fun acts => by rw [doInvoke_state]; exact hsteps.trans h⟩
abbrev vx_CVW (R : Room) (s : State) (args : Array Value) (own C : String) (index : Nat) (y : MethodName) (bytes : ByteArray) (maxL : Nat) (ret : Option FieldType) (hh : List (Nat × Nat × Nat × Nat)) (ws : List Cond) (rm : Room) (mc ms n : Nat) : Prop :=
  (rm.cells = mc ∧ rm.slots = ms ∧ rm.frames + 1 ≤ R.frames ∧ 8 + (maxL + 11) + rm.locals ≤ R.locals ∧ (∀ w ∈ ws, ∀ (a' : Array Value) (U : State), s.WarmedH U.vm → w.before a' U = true) ∧ Cond.codeWith y bytes maxL ret hh ∈ ws) ∧
  (Cond.codeWith y bytes maxL ret hh).before args s = true ∧ (Cond.initialized y.cls).before args s = true ∧ (y.cls ≠ "java/lang/invoke/MethodHandle" ∧ y.cls ≠ "java/lang/invoke/VarHandle") ∧
  (∀ sig, parseMethodDescriptor y.desc = some sig → n = sig.parameters.length) ∧ (Cond.methodLink own index y).before args s = true ∧ (Cond.instanceMethod y).before args s = true ∧ (Cond.selects C y y).before args s = true
theorem vx_cwVW {own C : String} {index maxL mc ms : Nat} {y : MethodName} {bytes : ByteArray} {ret : Option FieldType} {hh : List (Nat × Nat × Nat × Nat)} {Ts ws ws' : List Cond} {rm : Room} (n : Nat) (ht : ∀ w ∈ Ts, w.before args s = true) (hT : GoodIn Ts (wsV own index C y ws)) (hw : ws = Cond.codeWith y bytes maxL ret hh :: ws') (hrc : rm.cells = mc) (hrs : rm.slots = ms)
    (hd : y.cls = C ∧ y.cls ≠ "java/lang/invoke/MethodHandle" ∧ y.cls ≠ "java/lang/invoke/VarHandle" ∧ (parseMethodDescriptor y.desc).map (fun d => d.parameters.length) = some n) (hR : rm.frames + 1 ≤ R.frames ∧ 8 + (maxL + 11) + rm.locals ≤ R.locals) :
    vx_CVW R s args own C index y bytes maxL ret hh ws rm mc ms n := by
  obtain ⟨hC, hd⟩ := hd
  subst hC
  have ok : ∀ w ∈ wsV own index y.cls y ws, w.before args s = true := fun w h => ht w (hT w h).1
  have hG : GoodIn Ts ws := fun w h => hT w (by unfold wsV; exact List.mem_append_right _ h)
  have hc : Cond.codeWith y bytes maxL ret hh ∈ ws := by rw [hw]; exact List.mem_cons_self
  refine ⟨⟨hrc, hrs, hR.1, hR.2, pay_in ht hG, hc⟩, ht _ (hG _ hc).1, ok _ (by simp [wsV]), ⟨hd.1, hd.2.1⟩, fun sig h => ?_, ok _ (by simp [wsV]), ok _ (by simp [wsV]), ok _ (by simp [wsV])⟩
  have h2 := hd.2.2
  rw [h] at h2
  exact (Option.some.inj h2).symm
theorem vx_runVW {y : MethodName} {bytes cc : ByteArray} {maxL nL mc ms n index : Nat} {ret : Option FieldType} {hh : List (Nat × Nat × Nat × Nat)} {ws : List Cond} {rm : Room} {Pc : Array Value → State → Prop} {Qc : Array Value → State → Outcome → State → Prop} {free : Addr → Prop} {Ts : List Cond} {own C : String} {b : Addr} {As rest : List Value} {g : JFrame}
    (S : CallFix p m c cc nL s args Ts own) (hM : Met l y ws rm Pc Qc mc ms free) (cw : vx_CVW R s args own C index y bytes maxL ret hh ws rm mc ms n) (hp : PreV s H C b Pc As)
    (hg : g.method = m) (hn : As.length = n) (hsize : g.locals.size = nL) (hstack : g.stack = As.reverse ++ .ref b :: rest) (hW : 2 * g.monitorRoom + (rest.map fun v => v.category).sum ≤ 8) (hdg : decode cc g.pc = .ok (.invokevirtual index, 3)) (hf : cells + mc ≤ R.cells ∧ slots + ms ≤ R.slots) :
    va_Run p l e R s m args below meth c H locs cells slots mc ms g rest (Qc (Value.ref b :: As).toArray) free := by
  obtain ⟨⟨hrc, hrs, hfr, hlo, hws, hcw⟩, hcode, hini, hy, hlen, hl, hin, hse⟩ := cw
  have hK : Back l R p e below s args y 3 8 (PreOf R mc ms Pc) (PostOf Qc mc ms free) := va_backW (hh := hh) (bytes := bytes) (maxL := maxL) (ret := ret) hM hp.1 hrc hrs hfr hlo hws hcw (fun a' U hW => word_at hW (Or.inl (by first | rfl | simp [Cond.onTables, Cond.keeps, Cond.steady])) hini)
  obtain ⟨hx, hb, hml, ho, -⟩ := S
  obtain ⟨-, ⟨cellB, hcB, hoB, hclB⟩, hPc⟩ := hp
  intro T hT X
  obtain ⟨v, vm₁, ⟨U', l2, c2, s2⟩, hW₁, X', ⟨g', mk, t, L, e1, e2, hq, h1, hL, h2, h3⟩, st⟩ := vx_callVW X hx (C := C) (hh := hh) (bytes := bytes) (maxL := maxL) (ret := ret) ho hl hin hse hcode hy hK (by rw [hT]; exact hcB) hoB hclB hg (hsize.trans hml.symm) (argsL := As) (rest := rest) (fun sig h => hn.trans (hlen sig h)) hstack hW (by rw [hb]; exact hdg)
    (fun vm₁ hW₁ => ⟨hf.1, hf.2, hPc (T.setVm vm₁) hT hW₁⟩)
  dsimp only [Pt.U, Pt.locs, Pt.cells, Pt.slots] at X' e1 e2 h1 h2 h3 st
  subst h1; subst h2; subst h3
  exact ⟨v, (T.setVm vm₁).calling g' mk (Value.ref b :: As).toArray, t, U', L, hT, X', hL, e1, e2, hq, st⟩
section
variable {y : MethodName} {bytes cc : ByteArray} {maxL nL mc ms n index : Nat} {ret : Option FieldType} {ws : List Cond} {rm : Room} {Pc : Array Value → State → Prop} {Qc : Array Value → State → Outcome → State → Prop} {XC : String → State → State → Prop} {free : Addr → Prop} {Ts : List Cond} {own C : String} {b : Addr} {As rest : List Value} {g : JFrame}
theorem vx_runVX {hh : List (Nat × Nat × Nat × Nat)} (S : CallFix p m c cc nL s args Ts own) (hM : vx_Met l y ws rm Pc Qc XC mc ms free) (cw : vx_CVW R s args own C index y bytes maxL ret hh ws rm mc ms n) (hp : PreV s H C b Pc As)
    (hg : g.method = m) (hn : As.length = n) (hsize : g.locals.size = nL) (hstack : g.stack = As.reverse ++ .ref b :: rest) (hW : 2 * g.monitorRoom + (rest.map fun v => v.category).sum ≤ 8) (hdg : decode cc g.pc = .ok (.invokevirtual index, 3)) (hf : cells + mc ≤ R.cells ∧ slots + ms ≤ R.slots) :
    vx_Run p l e R s m args below meth c H locs cells slots mc ms g rest (Qc (Value.ref b :: As).toArray) XC free := by
  obtain ⟨⟨hrc, hrs, hfr, hlo, hws, hcw⟩, hcode, hini, hy, hlen, hl, hin, hse⟩ := cw
  have hK : vx_Back l R p e below s args y 3 8 (PreOf R mc ms Pc) (PostOf Qc mc ms free) (vx_Post XC mc ms free) := vx_backW (hh := hh) (bytes := bytes) (maxL := maxL) (ret := ret) hM hp.1 hrc hrs hfr hlo hws hcw (fun a' U hW => word_at hW (Or.inl (by first | rfl | simp [Cond.onTables, Cond.keeps, Cond.steady])) hini)
  obtain ⟨hx, hb, hml, ho, -⟩ := S
  obtain ⟨-, ⟨cellB, hcB, hoB, hclB⟩, hPc⟩ := hp
  intro T hT X
  rcases vx_callVX X hx (C := C) (hh := hh) (bytes := bytes) (maxL := maxL) (ret := ret) ho hl hin hse hcode hy hK (by rw [hT]; exact hcB) hoB hclB hg (hsize.trans hml.symm) (argsL := As) (rest := rest) (fun sig h => hn.trans (hlen sig h)) hstack hW (by rw [hb]; exact hdg)
    (fun vm₁ hW₁ => ⟨hf.1, hf.2, hPc (T.setVm vm₁) hT hW₁⟩) with ⟨v, vm₁, ⟨U', l2, c2, s2⟩, hW₁, X', ⟨g', mk, t, L, e1, e2, hq, h1, hL, h2, h3⟩, st⟩ | ⟨q, vm₁, ⟨U', l2, c2, s2⟩, hW₁, X', ⟨g', mk, t, L, E, ce, e1, e2, hq, hce, hcv, hcl, h1, hL, h2, h3⟩, st⟩
  · dsimp only [Pt.U, Pt.locs, Pt.cells, Pt.slots] at X' e1 e2 h1 h2 h3 st
    subst h1; subst h2; subst h3
    exact Or.inl ⟨v, (T.setVm vm₁).calling g' mk (Value.ref b :: As).toArray, t, U', L, hT, X', hL, e1, e2, hq, st⟩
  · dsimp only [Pt.U, Pt.locs, Pt.cells, Pt.slots] at X' e1 e2 h1 h2 h3 st hcl
    subst h1; subst h2; subst h3
    exact Or.inr ⟨q, (T.setVm vm₁).calling g' mk (Value.ref b :: As).toArray, t, U', L, E, ce, hT, X', hL, e1, e2, hq, hce, hcv, vx_cls hW₁ hcl, st⟩
theorem vx_runSX {hh : List (Nat × Nat × Nat × Nat)} (S : CallFix p m c cc nL s args Ts own) (hM : vx_Met l y ws rm Pc Qc XC mc ms free) (cw : vx_CSW R s args own index y bytes maxL ret hh ws rm mc ms n) (hp : PreS s H Pc As)
    (hg : g.method = m) (hn : As.length = n) (hsize : g.locals.size = nL) (hstack : g.stack = As.reverse ++ rest) (hW : 2 * g.monitorRoom + (rest.map fun v => v.category).sum ≤ 8) (hdg : decode cc g.pc = .ok (.invokestatic index, 3)) (hf : cells + mc ≤ R.cells ∧ slots + ms ≤ R.slots) :
    vx_Run p l e R s m args below meth c H locs cells slots mc ms g rest (Qc As.toArray) XC free := by
  obtain ⟨⟨hrc, hrs, hfr, hlo, hws, hcw⟩, hcode, hini, hy, hlen, hl, hstt⟩ := cw
  have hK : vx_Back l R p e below s args y 3 8 (PreOf R mc ms Pc) (PostOf Qc mc ms free) (vx_Post XC mc ms free) := vx_backW (hh := hh) (bytes := bytes) (maxL := maxL) (ret := ret) hM hp.1 hrc hrs hfr hlo hws hcw (fun a' U hW => word_at hW (Or.inl (by first | rfl | simp [Cond.onTables, Cond.keeps, Cond.steady])) hini)
  obtain ⟨hx, hb, hml, ho, -⟩ := S
  intro T hT X
  rcases vx_callSX X hx (hh := hh) (bytes := bytes) (maxL := maxL) (ret := ret) ho hl hstt hini hcode hy hK hg (hsize.trans hml.symm) (argsL := As) (rest := rest) (fun sig h => hn.trans (hlen sig h)) hstack hW (by rw [hb]; exact hdg)
    (fun vm₁ hW₁ => ⟨hf.1, hf.2, hp.2 (T.setVm vm₁) hT hW₁⟩) with ⟨v, vm₁, ⟨U', l2, c2, s2⟩, hW₁, X', ⟨g', mk, t, L, e1, e2, hq, h1, hL, h2, h3⟩, st⟩ | ⟨q, vm₁, ⟨U', l2, c2, s2⟩, hW₁, X', ⟨g', mk, t, L, E, ce, e1, e2, hq, hce, hcv, hcl, h1, hL, h2, h3⟩, st⟩
  · dsimp only [Pt.U, Pt.locs, Pt.cells, Pt.slots] at X' e1 e2 h1 h2 h3 st
    subst h1; subst h2; subst h3
    exact Or.inl ⟨v, (T.setVm vm₁).calling g' mk As.toArray, t, U', L, hT, X', hL, e1, e2, hq, st⟩
  · dsimp only [Pt.U, Pt.locs, Pt.cells, Pt.slots] at X' e1 e2 h1 h2 h3 st hcl
    subst h1; subst h2; subst h3
    exact Or.inr ⟨q, (T.setVm vm₁).calling g' mk As.toArray, t, U', L, E, ce, hT, X', hL, e1, e2, hq, hce, hcv, vx_cls hW₁ hcl, st⟩
end
end VXH
theorem vx_ofWH {l : Launch} {y : MethodName} {ws ws' : List Cond} {rm : Room} {Pc : Array Value → State → Prop} {Qc : Array Value → State → Outcome → State → Prop} {XC : String → State → State → Prop} {mc ms : Nat} {free : Addr → Prop} {cc : ByteArray} {maxL : Nat} {ret : Option FieldType} {hh : List (Nat × Nat × Nat × Nat)}
    (hy : plainName y.cls = true) (hw : ws = Cond.codeWith y cc maxL ret hh :: ws')
    (body : ∀ p e s m args below meth c s₁, BodyLoose p l y (headSpec ws rm) cc maxL ret e s m args below meth c s₁ → c.maxLocals = maxL → Pc args s →
      W p l e (headSpec ws rm).room s m args below meth c s.heap [] 0 0 (vx_MQ below Qc XC args s mc ms free) (entryFrame m args maxL)) : vx_Met l y ws rm Pc Qc XC mc ms free := by
  refine MetFree.of_bodyS (code := cc) (maxLocals := maxL) (ret := ret) hy ?_ ?_
  · intro args s m h hn
    obtain ⟨m9, meth, c, hn9, h1, h2, h3, h4, -, h5, h6, -⟩ := Cond.codeWith_spec (atoms_spec (ws := ws) h _ (by rw [hw]; exact List.mem_cons_self))
    cases hn.symm.trans hn9
    exact ⟨meth, c, h1, h2, h3, h4, h5, h6⟩
  · intro p e s m args below meth c s₁ B hml hP _
    have hh0 : s₁.heap = s.heap := by rw [B.state]; rfl
    obtain ⟨t, a1, o, b1, b2, b3⟩ := body p e s m args below meth c s₁ B hml hP s₁ hh0 (Stand.of_body B)
    exact ⟨t, o, a1, b1, b2, b3⟩
/-! ===== END ===== -/
end
section
/-! ===== BEGIN printed: names, fields, word lists, decode rows ===== -/
def RX0 : String := "StruckCounts$Board"
def TX0 : u_T := fun k => match k with
  | 0 => ("StruckCounts$Board", "tally", "LStruckCounts$Tally;", true)
  | 1 => ("StruckCounts$Board", "tallied", "I", false)
  | 2 => ("StruckCounts$Board", "bound", "I", false)
  | 3 => ("StruckCounts$Board", "came", "I", false)
  | _ => ("StruckCounts$Board", "struck", "J", false)
def tyX0 : Nat → FieldType := fun k => match k with
  | 0 => .object "StruckCounts$Tally"
  | 1 => .int
  | 2 => .int
  | 3 => .int
  | _ => .long
abbrev wsX00 : List Cond := u_ws RX0 TX0 5
theorem nmX0 : ∀ a, a < 5 → ∀ b, b < 5 → a ≠ b → (TX0 a).2.1 ≠ (TX0 b).2.1 := by decide +kernel
theorem tyX0_ok : ∀ k, k < 5 → parseFieldDescriptor (TX0 k).2.2.1 = some (tyX0 k) := by decide +kernel
abbrev cX0_init : ByteArray := prog_2_method_1_code
def yX0_init : MethodName := ⟨RX0, "<init>", "()V"⟩
abbrev cX0_begin : ByteArray := prog_2_method_2_code
def yX0_begin : MethodName := ⟨RX0, "begin", "(I)V"⟩
abbrev cX0_show : ByteArray := prog_2_method_3_code
def yX0_show : MethodName := ⟨RX0, "show", "(IIJ)V"⟩
abbrev cX0_tally : ByteArray := prog_2_method_5_code
def yX0_tally : MethodName := ⟨RX0, "tally", "()LStruckCounts$Tally;"⟩
abbrev cX0_countLeft : ByteArray := prog_2_method_6_code
def yX0_countLeft : MethodName := ⟨RX0, "countLeft", "()I"⟩
abbrev cX0_primeAt : ByteArray := prog_2_method_7_code
def yX0_primeAt : MethodName := ⟨RX0, "primeAt", "(I)I"⟩
abbrev cX0_hasStruck : ByteArray := prog_2_method_8_code
def yX0_hasStruck : MethodName := ⟨RX0, "hasStruck", "(I)Z"⟩
abbrev cX0_nextPrime : ByteArray := prog_2_method_10_code
def yX0_nextPrime : MethodName := ⟨RX0, "nextPrime", "()I"⟩
abbrev cX0_letCome : ByteArray := prog_2_method_11_code
def yX0_letCome : MethodName := ⟨RX0, "letCome", "(Z)Z"⟩
abbrev cX0_letStrikeUpTo : ByteArray := prog_2_method_12_code
def yX0_letStrikeUpTo : MethodName := ⟨RX0, "letStrikeUpTo", "(I)I"⟩
def RX1 : String := "StruckCounts$Primes"
def TX1 : u_T := fun k => match k with
  | _ => ("StruckCounts$Primes", "row", "[J", true)
def tyX1 : Nat → FieldType := fun k => match k with
  | _ => .array .long
abbrev wsX10 : List Cond := u_ws RX1 TX1 1
theorem nmX1 : ∀ a, a < 1 → ∀ b, b < 1 → a ≠ b → (TX1 a).2.1 ≠ (TX1 b).2.1 := by decide +kernel
theorem tyX1_ok : ∀ k, k < 1 → parseFieldDescriptor (TX1 k).2.2.1 = some (tyX1 k) := by decide +kernel
abbrev cX1_init : ByteArray := prog_3_method_1_code
def yX1_init : MethodName := ⟨RX1, "<init>", "()V"⟩
def RX2 : String := "StruckCounts$Store"
def TX2 : u_T := fun k => match k with
  | 0 => ("StruckCounts$Store", "bounds", "[I", true)
  | 1 => ("StruckCounts$Store", "cames", "[I", true)
  | 2 => ("StruckCounts$Store", "strucks", "[J", true)
  | 3 => ("StruckCounts$Store", "newest", "I", false)
  | _ => ("StruckCounts$Store", "remembered", "I", false)
def tyX2 : Nat → FieldType := fun k => match k with
  | 0 => .array .int
  | 1 => .array .int
  | 2 => .array .long
  | 3 => .int
  | _ => .int
abbrev wsX20 : List Cond := u_ws RX2 TX2 5
theorem nmX2 : ∀ a, a < 5 → ∀ b, b < 5 → a ≠ b → (TX2 a).2.1 ≠ (TX2 b).2.1 := by decide +kernel
theorem tyX2_ok : ∀ k, k < 5 → parseFieldDescriptor (TX2 k).2.2.1 = some (tyX2 k) := by decide +kernel
abbrev cX2_init : ByteArray := prog_4_method_1_code
def yX2_init : MethodName := ⟨RX2, "<init>", "()V"⟩
abbrev cX2_remember : ByteArray := prog_4_method_3_code
def yX2_remember : MethodName := ⟨RX2, "remember", "(LStruckCounts$Board;)V"⟩
abbrev cX2_takeBack : ByteArray := prog_4_method_4_code
def yX2_takeBack : MethodName := ⟨RX2, "takeBack", "(LStruckCounts$Board;)V"⟩
abbrev cX2_put : ByteArray := prog_4_method_8_code
def yX2_put : MethodName := ⟨RX2, "put", "(ILStruckCounts$Board;)V"⟩
abbrev cX2_show : ByteArray := prog_4_method_9_code
def yX2_show : MethodName := ⟨RX2, "show", "(ILStruckCounts$Board;)V"⟩
def RX3 : String := "StruckCounts$Tally"
def TX3 : u_T := fun k => match k with
  | 0 => ("StruckCounts$Tally", "values", "[I", true)
  | 1 => ("StruckCounts$Tally", "rests", "[I", true)
  | 2 => ("StruckCounts$Tally", "sums", "[J", true)
  | 3 => ("StruckCounts$Tally", "bound", "I", false)
  | _ => ("StruckCounts$Tally", "size", "I", false)
def tyX3 : Nat → FieldType := fun k => match k with
  | 0 => .array .int
  | 1 => .array .int
  | 2 => .array .long
  | 3 => .int
  | _ => .int
abbrev wsX30 : List Cond := u_ws RX3 TX3 5
theorem nmX3 : ∀ a, a < 5 → ∀ b, b < 5 → a ≠ b → (TX3 a).2.1 ≠ (TX3 b).2.1 := by decide +kernel
theorem tyX3_ok : ∀ k, k < 5 → parseFieldDescriptor (TX3 k).2.2.1 = some (tyX3 k) := by decide +kernel
abbrev cX3_init : ByteArray := prog_5_method_1_code
def yX3_init : MethodName := ⟨RX3, "<init>", "()V"⟩
abbrev cX3_begin : ByteArray := prog_5_method_2_code
def yX3_begin : MethodName := ⟨RX3, "begin", "(I)V"⟩
abbrev cX3_fill : ByteArray := prog_5_method_3_code
def yX3_fill : MethodName := ⟨RX3, "fill", "(II)V"⟩
abbrev cX3_placeOf : ByteArray := prog_5_method_4_code
def yX3_placeOf : MethodName := ⟨RX3, "placeOf", "(I)I"⟩
abbrev cX3_has : ByteArray := prog_5_method_5_code
def yX3_has : MethodName := ⟨RX3, "has", "(I)Z"⟩
abbrev cX3_valueAt : ByteArray := prog_5_method_6_code
def yX3_valueAt : MethodName := ⟨RX3, "valueAt", "(I)I"⟩
abbrev cX3_countAt : ByteArray := prog_5_method_7_code
def yX3_countAt : MethodName := ⟨RX3, "countAt", "(I)I"⟩
abbrev cX3_restAt : ByteArray := prog_5_method_8_code
def yX3_restAt : MethodName := ⟨RX3, "restAt", "(II)I"⟩
abbrev cX3_sumAt : ByteArray := prog_5_method_9_code
def yX3_sumAt : MethodName := ⟨RX3, "sumAt", "(I)J"⟩
abbrev cX3_multiplesAt : ByteArray := prog_5_method_10_code
def yX3_multiplesAt : MethodName := ⟨RX3, "multiplesAt", "(II)I"⟩
abbrev cX3_remove : ByteArray := prog_5_method_11_code
def yX3_remove : MethodName := ⟨RX3, "remove", "(I)V"⟩
def RX4 : String := "StruckCounts$Text"
def TX4 : u_T := fun k => match k with
  | 0 => ("StruckCounts$Text", "signs", "[C", true)
  | 1 => ("StruckCounts$Text", "length", "I", false)
  | 2 => ("StruckCounts$Text", "at", "I", false)
  | 3 => ("StruckCounts$Text", "wordIsDue", "Z", false)
  | 4 => ("StruckCounts$Text", "fault", "I", false)
  | 5 => ("StruckCounts$Text", "word", "LStruckCounts$Word;", false)
  | _ => ("StruckCounts$Text", "number", "I", false)
def tyX4 : Nat → FieldType := fun k => match k with
  | 0 => .array .char
  | 1 => .int
  | 2 => .int
  | 3 => .boolean
  | 4 => .int
  | 5 => .object "StruckCounts$Word"
  | _ => .int
abbrev wsX40 : List Cond := u_ws RX4 TX4 7
theorem nmX4 : ∀ a, a < 7 → ∀ b, b < 7 → a ≠ b → (TX4 a).2.1 ≠ (TX4 b).2.1 := by decide +kernel
theorem tyX4_ok : ∀ k, k < 7 → parseFieldDescriptor (TX4 k).2.2.1 = some (tyX4 k) := by decide +kernel
abbrev cX4_init : ByteArray := prog_6_method_1_code
def yX4_init : MethodName := ⟨RX4, "<init>", "()V"⟩
def RX5 : String := "StruckCounts$Word"
def TX5 : u_T := fun k => match k with
  | _ => ("", "", "", false)
def tyX5 : Nat → FieldType := fun k => match k with
  | _ => .int
abbrev wsX50 : List Cond := u_ws RX5 TX5 0
theorem nmX5 : ∀ a, a < 0 → ∀ b, b < 0 → a ≠ b → (TX5 a).2.1 ≠ (TX5 b).2.1 := by decide +kernel
theorem tyX5_ok : ∀ k, k < 0 → parseFieldDescriptor (TX5 k).2.2.1 = some (tyX5 k) := by decide +kernel
def RX6 : String := "StruckCounts"
def TX6 : u_T := fun k => match k with
  | 0 => ("StruckCounts", "text", "LStruckCounts$Text;", true)
  | 1 => ("StruckCounts", "board", "LStruckCounts$Board;", true)
  | 2 => ("StruckCounts", "store", "LStruckCounts$Store;", true)
  | 3 => ("StruckCounts", "primeRow", "LStruckCounts$Primes;", true)
  | _ => ("StruckCounts", "trial", "LStruckCounts$Board;", true)
def tyX6 : Nat → FieldType := fun k => match k with
  | 0 => .object "StruckCounts$Text"
  | 1 => .object "StruckCounts$Board"
  | 2 => .object "StruckCounts$Store"
  | 3 => .object "StruckCounts$Primes"
  | _ => .object "StruckCounts$Board"
abbrev wsX60 : List Cond := u_ws RX6 TX6 5
theorem nmX6 : ∀ a, a < 5 → ∀ b, b < 5 → a ≠ b → (TX6 a).2.1 ≠ (TX6 b).2.1 := by decide +kernel
theorem tyX6_ok : ∀ k, k < 5 → parseFieldDescriptor (TX6 k).2.2.1 = some (tyX6 k) := by decide +kernel
abbrev cX6_init : ByteArray := prog_1_method_1_code
def yX6_init : MethodName := ⟨RX6, "<init>", "()V"⟩
abbrev cX6_about : ByteArray := prog_1_method_7_code
def yX6_about : MethodName := ⟨RX6, "about", "(I)I"⟩
abbrev cX6_quotient : ByteArray := prog_1_method_8_code
def yX6_quotient : MethodName := ⟨RX6, "quotient", "(I)I"⟩
abbrev cX6_quotientOf : ByteArray := prog_1_method_9_code
def yX6_quotientOf : MethodName := ⟨RX6, "quotientOf", "(I)I"⟩
abbrev cX6_left : ByteArray := prog_1_method_10_code
def yX6_left : MethodName := ⟨RX6, "left", "(I)I"⟩
abbrev cX6_sumLeft : ByteArray := prog_1_method_11_code
def yX6_sumLeft : MethodName := ⟨RX6, "sumLeft", "(I)J"⟩
abbrev cX6_restLeft : ByteArray := prog_1_method_12_code
def yX6_restLeft : MethodName := ⟨RX6, "restLeft", "(II)I"⟩
abbrev cX6_came : ByteArray := prog_1_method_13_code
def yX6_came : MethodName := ⟨RX6, "came", "(I)I"⟩
abbrev cX6_bound : ByteArray := prog_1_method_14_code
def yX6_bound : MethodName := ⟨RX6, "bound", "(I)I"⟩
abbrev cX6_strike : ByteArray := prog_1_method_15_code
def yX6_strike : MethodName := ⟨RX6, "strike", "()I"⟩
abbrev cX6_spare : ByteArray := prog_1_method_16_code
def yX6_spare : MethodName := ⟨RX6, "spare", "()I"⟩
abbrev cX6_strikeTo : ByteArray := prog_1_method_17_code
def yX6_strikeTo : MethodName := ⟨RX6, "strikeTo", "(I)I"⟩
abbrev cX6_again : ByteArray := prog_1_method_18_code
def yX6_again : MethodName := ⟨RX6, "again", "()I"⟩
abbrev cX6_undo : ByteArray := prog_1_method_19_code
def yX6_undo : MethodName := ⟨RX6, "undo", "()I"⟩
abbrev cX6_wouldStrike : ByteArray := prog_1_method_20_code
def yX6_wouldStrike : MethodName := ⟨RX6, "wouldStrike", "(I)I"⟩
abbrev cX6_outside : ByteArray := prog_1_method_35_code
def yX6_outside : MethodName := ⟨RX6, "outside", "(III)Z"⟩
abbrev cX6_checkQuotient : ByteArray := prog_1_method_36_code
def yX6_checkQuotient : MethodName := ⟨RX6, "checkQuotient", "(I)V"⟩
abbrev cX6_checkNextPrime : ByteArray := prog_1_method_37_code
def yX6_checkNextPrime : MethodName := ⟨RX6, "checkNextPrime", "()V"⟩
def RX7 : String := "StruckCountsModel"
def TX7 : u_T := fun k => match k with
  | _ => ("", "", "", false)
def tyX7 : Nat → FieldType := fun k => match k with
  | _ => .int
abbrev wsX70 : List Cond := u_ws RX7 TX7 0
theorem nmX7 : ∀ a, a < 0 → ∀ b, b < 0 → a ≠ b → (TX7 a).2.1 ≠ (TX7 b).2.1 := by decide +kernel
theorem tyX7_ok : ∀ k, k < 0 → parseFieldDescriptor (TX7 k).2.2.1 = some (tyX7 k) := by decide +kernel
def RJ13 : String := "java/lang/Long"
def TJ13 : u_T := fun k => match k with
  | _ => ("", "", "", false)
def tyJ13 : Nat → FieldType := fun k => match k with
  | _ => .int
abbrev wsJ130 : List Cond := u_ws RJ13 TJ13 0
theorem nmJ13 : ∀ a, a < 0 → ∀ b, b < 0 → a ≠ b → (TJ13 a).2.1 ≠ (TJ13 b).2.1 := by decide +kernel
theorem tyJ13_ok : ∀ k, k < 0 → parseFieldDescriptor (TJ13 k).2.2.1 = some (tyJ13 k) := by decide +kernel
abbrev cJ13_bitCount_95d88 : ByteArray := prog_14_method_50_code
def yJ13_bitCount_95d88 : MethodName := ⟨RJ13, "bitCount", "(J)I"⟩
def RJ9 : String := "java/lang/Math"
def TJ9 : u_T := fun k => match k with
  | _ => ("", "", "", false)
def tyJ9 : Nat → FieldType := fun k => match k with
  | _ => .int
abbrev wsJ90 : List Cond := u_ws RJ9 TJ9 0
theorem nmJ9 : ∀ a, a < 0 → ∀ b, b < 0 → a ≠ b → (TJ9 a).2.1 ≠ (TJ9 b).2.1 := by decide +kernel
theorem tyJ9_ok : ∀ k, k < 0 → parseFieldDescriptor (TJ9 k).2.2.1 = some (tyJ9 k) := by decide +kernel
abbrev cJ9_max_7cf53 : ByteArray := prog_15_method_65_code
def yJ9_max_7cf53 : MethodName := ⟨RJ9, "max", "(II)I"⟩
abbrev cJ9_min_7cf53 : ByteArray := prog_15_method_69_code
def yJ9_min_7cf53 : MethodName := ⟨RJ9, "min", "(II)I"⟩
def RJ0 : String := "java/lang/String"
def TJ0 : u_T := fun k => match k with
  | _ => ("", "", "", false)
def tyJ0 : Nat → FieldType := fun k => match k with
  | _ => .int
abbrev wsJ00 : List Cond := u_ws RJ0 TJ0 0
theorem nmJ0 : ∀ a, a < 0 → ∀ b, b < 0 → a ≠ b → (TJ0 a).2.1 ≠ (TJ0 b).2.1 := by decide +kernel
theorem tyJ0_ok : ∀ k, k < 0 → parseFieldDescriptor (TJ0 k).2.2.1 = some (tyJ0 k) := by decide +kernel
def RL : String := "StruckCountsLaw"
abbrev cL_cell : ByteArray := method_2_code
def yL_cell : MethodName := ⟨RL, "cell", "([II)I"⟩
abbrev cL_bound : ByteArray := method_3_code
def yL_bound : MethodName := ⟨RL, "bound", "(LStruckCounts;I)I"⟩
abbrev cL_strike : ByteArray := method_4_code
def yL_strike : MethodName := ⟨RL, "strike", "(LStruckCounts;)I"⟩
abbrev cL_spare : ByteArray := method_5_code
def yL_spare : MethodName := ⟨RL, "spare", "(LStruckCounts;)I"⟩
abbrev cL_strikeTo : ByteArray := method_6_code
def yL_strikeTo : MethodName := ⟨RL, "strikeTo", "(LStruckCounts;I)I"⟩
abbrev cL_undo : ByteArray := method_7_code
def yL_undo : MethodName := ⟨RL, "undo", "(LStruckCounts;)I"⟩
abbrev cL_about : ByteArray := method_8_code
def yL_about : MethodName := ⟨RL, "about", "(LStruckCounts;I)I"⟩
abbrev cL_quotient : ByteArray := method_9_code
def yL_quotient : MethodName := ⟨RL, "quotient", "(LStruckCounts;I)I"⟩
abbrev cL_left : ByteArray := method_10_code
def yL_left : MethodName := ⟨RL, "left", "(LStruckCounts;I)I"⟩
abbrev cL_restLeft : ByteArray := method_11_code
def yL_restLeft : MethodName := ⟨RL, "restLeft", "(LStruckCounts;II)I"⟩
abbrev cL_came : ByteArray := method_12_code
def yL_came : MethodName := ⟨RL, "came", "(LStruckCounts;I)I"⟩
abbrev cL_wouldStrike : ByteArray := method_13_code
def yL_wouldStrike : MethodName := ⟨RL, "wouldStrike", "(LStruckCounts;I)I"⟩
abbrev cL_sumLeft : ByteArray := method_14_code
def yL_sumLeft : MethodName := ⟨RL, "sumLeft", "(LStruckCounts;I)J"⟩
abbrev cL_hangs : ByteArray := method_15_code
def yL_hangs : MethodName := ⟨RL, "hangs", "(LStruckCounts;)Z"⟩
abbrev cL_law : ByteArray := code
def yL_law : MethodName := ⟨RL, "law", "([I)Z"⟩
def wsX3_init : List Cond := .code yX3_init cX3_init 1 none :: ([.methodLink RX3 3 objectInit, .instanceMethod objectInit, .code objectInit ⟨#[0xb1]⟩ 1 none, .arrayClass .int, .fieldLink RX3 11 "StruckCounts$Tally" "values" "[I", .fieldLink RX3 15 "StruckCounts$Tally" "rests" "[I", .arrayClass .long, .fieldLink RX3 18 "StruckCounts$Tally" "sums" "[J"] ++ wsX30)
def wsX0_show : List Cond := .code yX0_show cX0_show 5 none :: ([.fieldLink RX0 26 "StruckCounts$Board" "bound" "I", .fieldLink RX0 30 "StruckCounts$Board" "came" "I", .fieldLink RX0 33 "StruckCounts$Board" "struck" "J", .fieldLink RX0 37 "StruckCounts$Board" "tallied" "I"] ++ wsX00)
def wsX0_begin : List Cond := .code yX0_begin cX0_begin 2 none :: ([.methodLink RX0 22 yX0_show, .instanceMethod yX0_show, .selects RX0 yX0_show yX0_show, .initialized RX0, .code yX0_show cX0_show 5 none, .fieldLink RX0 26 "StruckCounts$Board" "bound" "I", .fieldLink RX0 30 "StruckCounts$Board" "came" "I", .fieldLink RX0 33 "StruckCounts$Board" "struck" "J", .fieldLink RX0 37 "StruckCounts$Board" "tallied" "I"] ++ wsX00)
def wsX0_init_r1 : List Cond := [Cond.methodLink RX0 3 objectInit, Cond.instanceMethod objectInit, Cond.code objectInit ⟨#[0xb1]⟩ 1 none, Cond.classLink RX0 9 RX3, Cond.instantiable RX3 5, Cond.initialized RX3, Cond.fieldLink RX0 12 "StruckCounts$Board" "tally" "LStruckCounts$Tally;", Cond.instanceMethod yX3_init, Cond.code yX3_init cX3_init 1 none, Cond.methodLink RX3 3 objectInit, Cond.arrayClass .int, Cond.fieldLink RX3 11 "StruckCounts$Tally" "values" "[I", Cond.fieldLink RX3 15 "StruckCounts$Tally" "rests" "[I", Cond.arrayClass .long, Cond.fieldLink RX3 18 "StruckCounts$Tally" "sums" "[J", Cond.methodLink RX0 18 yX0_begin, Cond.instanceMethod yX0_begin, Cond.selects RX0 yX0_begin yX0_begin, Cond.initialized RX0, Cond.code yX0_begin cX0_begin 2 none, Cond.methodLink RX0 22 yX0_show, Cond.instanceMethod yX0_show, Cond.selects RX0 yX0_show yX0_show, Cond.code yX0_show cX0_show 5 none]
def wsX0_init_r2 : List Cond := [Cond.fieldLink RX0 26 "StruckCounts$Board" "bound" "I", Cond.fieldLink RX0 30 "StruckCounts$Board" "came" "I", Cond.fieldLink RX0 33 "StruckCounts$Board" "struck" "J", Cond.fieldLink RX0 37 "StruckCounts$Board" "tallied" "I"]
def wsX0_init : List Cond := .code yX0_init cX0_init 1 none :: ((wsX0_init_r1 ++ wsX0_init_r2) ++ wsX30 ++ wsX00)
def wsX3_has : List Cond := .code yX3_has cX3_has 2 (some .boolean) :: ([.fieldLink RX3 26 "StruckCounts$Tally" "size" "I"] ++ wsX30)
def wsX3_fill : List Cond := .code yX3_fill cX3_fill 4 none :: ([.fieldLink RX3 11 "StruckCounts$Tally" "values" "[I", .fieldLink RX3 18 "StruckCounts$Tally" "sums" "[J", .constantLong RX3 43 (2), .fieldLink RX3 15 "StruckCounts$Tally" "rests" "[I", .methodLink RX3 39 yX3_has, .instanceMethod yX3_has, .selects RX3 yX3_has yX3_has, .initialized RX3, .code yX3_has cX3_has 2 (some .boolean), .fieldLink RX3 26 "StruckCounts$Tally" "size" "I"] ++ wsX30)
def wsX3_begin : List Cond := .code yX3_begin cX3_begin 4 none :: ([.fieldLink RX3 22 "StruckCounts$Tally" "bound" "I", .fieldLink RX3 26 "StruckCounts$Tally" "size" "I", .methodLink RX3 33 Lib.Math.max.name, .static Lib.Math.max.name, .initialized "java/lang/Math", .code Lib.Math.max.name Lib.Math.max.code 2 (some .int), .methodLink RX3 29 yX3_fill, .instanceMethod yX3_fill, .selects RX3 yX3_fill yX3_fill, .initialized RX3, .code yX3_fill cX3_fill 4 none, .fieldLink RX3 11 "StruckCounts$Tally" "values" "[I", .fieldLink RX3 18 "StruckCounts$Tally" "sums" "[J", .constantLong RX3 43 (2), .fieldLink RX3 15 "StruckCounts$Tally" "rests" "[I", .methodLink RX3 39 yX3_has, .instanceMethod yX3_has, .selects RX3 yX3_has yX3_has, .code yX3_has cX3_has 2 (some .boolean)] ++ wsX30)
def wsX0_hasStruck : List Cond := .code yX0_hasStruck cX0_hasStruck 2 (some .boolean) :: ([.fieldLink RX0 33 "StruckCounts$Board" "struck" "J"] ++ wsX00)
def wsX0_primeAt : List Cond := .code yX0_primeAt cX0_primeAt 2 (some .int) :: ([])
def wsX3_valueAt : List Cond := .code yX3_valueAt cX3_valueAt 2 (some .int) :: ([.fieldLink RX3 11 "StruckCounts$Tally" "values" "[I", .methodLink RX3 39 yX3_has, .instanceMethod yX3_has, .selects RX3 yX3_has yX3_has, .initialized RX3, .code yX3_has cX3_has 2 (some .boolean), .fieldLink RX3 26 "StruckCounts$Tally" "size" "I"] ++ wsX30)
def wsX3_placeOf : List Cond := .code yX3_placeOf cX3_placeOf 3 (some .int) :: ([.fieldLink RX3 22 "StruckCounts$Tally" "bound" "I", .fieldLink RX3 26 "StruckCounts$Tally" "size" "I"] ++ wsX30)
def wsX3_remove : List Cond := .code yX3_remove cX3_remove 5 none :: ([.fieldLink RX3 11 "StruckCounts$Tally" "values" "[I", .fieldLink RX3 18 "StruckCounts$Tally" "sums" "[J", .fieldLink RX3 15 "StruckCounts$Tally" "rests" "[I", .methodLink RX3 52 yX3_valueAt, .instanceMethod yX3_valueAt, .selects RX3 yX3_valueAt yX3_valueAt, .initialized RX3, .code yX3_valueAt cX3_valueAt 2 (some .int), .methodLink RX3 39 yX3_has, .instanceMethod yX3_has, .selects RX3 yX3_has yX3_has, .code yX3_has cX3_has 2 (some .boolean), .fieldLink RX3 26 "StruckCounts$Tally" "size" "I", .methodLink RX3 56 yX3_placeOf, .instanceMethod yX3_placeOf, .selects RX3 yX3_placeOf yX3_placeOf, .code yX3_placeOf cX3_placeOf 3 (some .int), .fieldLink RX3 22 "StruckCounts$Tally" "bound" "I"] ++ wsX30)
def wsX0_tally_r1 : List Cond := [Cond.fieldLink RX0 37 "StruckCounts$Board" "tallied" "I", Cond.fieldLink RX0 12 "StruckCounts$Board" "tally" "LStruckCounts$Tally;", Cond.fieldLink RX0 26 "StruckCounts$Board" "bound" "I", Cond.fieldLink RX0 30 "StruckCounts$Board" "came" "I", Cond.methodLink RX0 40 yX3_begin, Cond.instanceMethod yX3_begin, Cond.selects RX3 yX3_begin yX3_begin, Cond.initialized RX3, Cond.code yX3_begin cX3_begin 4 none, Cond.fieldLink RX3 22 "StruckCounts$Tally" "bound" "I", Cond.fieldLink RX3 26 "StruckCounts$Tally" "size" "I", Cond.methodLink RX3 33 Lib.Math.max.name, Cond.static Lib.Math.max.name, Cond.initialized "java/lang/Math", Cond.code Lib.Math.max.name Lib.Math.max.code 2 (some .int), Cond.methodLink RX3 29 yX3_fill, Cond.instanceMethod yX3_fill, Cond.selects RX3 yX3_fill yX3_fill, Cond.code yX3_fill cX3_fill 4 none, Cond.fieldLink RX3 11 "StruckCounts$Tally" "values" "[I", Cond.fieldLink RX3 18 "StruckCounts$Tally" "sums" "[J", Cond.constantLong RX3 43 (2), Cond.fieldLink RX3 15 "StruckCounts$Tally" "rests" "[I", Cond.methodLink RX3 39 yX3_has]
def wsX0_tally_r2 : List Cond := [Cond.instanceMethod yX3_has, Cond.selects RX3 yX3_has yX3_has, Cond.code yX3_has cX3_has 2 (some .boolean), Cond.methodLink RX0 41 yX0_hasStruck, Cond.instanceMethod yX0_hasStruck, Cond.selects RX0 yX0_hasStruck yX0_hasStruck, Cond.initialized RX0, Cond.code yX0_hasStruck cX0_hasStruck 2 (some .boolean), Cond.fieldLink RX0 33 "StruckCounts$Board" "struck" "J", Cond.methodLink RX0 45 yX0_primeAt, Cond.instanceMethod yX0_primeAt, Cond.selects RX0 yX0_primeAt yX0_primeAt, Cond.code yX0_primeAt cX0_primeAt 2 (some .int), Cond.methodLink RX0 49 yX3_remove, Cond.instanceMethod yX3_remove, Cond.selects RX3 yX3_remove yX3_remove, Cond.code yX3_remove cX3_remove 5 none, Cond.methodLink RX3 52 yX3_valueAt, Cond.instanceMethod yX3_valueAt, Cond.selects RX3 yX3_valueAt yX3_valueAt, Cond.code yX3_valueAt cX3_valueAt 2 (some .int), Cond.methodLink RX3 56 yX3_placeOf, Cond.instanceMethod yX3_placeOf, Cond.selects RX3 yX3_placeOf yX3_placeOf]
def wsX0_tally_r3 : List Cond := [Cond.code yX3_placeOf cX3_placeOf 3 (some .int)]
def wsX0_tally : List Cond := .code yX0_tally cX0_tally 1 (some (.object "StruckCounts$Tally")) :: ((wsX0_tally_r1 ++ (wsX0_tally_r2 ++ wsX0_tally_r3)) ++ wsX00 ++ wsX30)
def wsX6_outside : List Cond := .code yX6_outside cX6_outside 3 (some .boolean) :: ([])
def wsX3_restAt : List Cond := .code yX3_restAt cX3_restAt 3 (some .int) :: ([.fieldLink RX3 15 "StruckCounts$Tally" "rests" "[I", .methodLink RX3 39 yX3_has, .instanceMethod yX3_has, .selects RX3 yX3_has yX3_has, .initialized RX3, .code yX3_has cX3_has 2 (some .boolean), .fieldLink RX3 26 "StruckCounts$Tally" "size" "I", .static yX6_outside, .initialized RX6, .code yX6_outside cX6_outside 3 (some .boolean)] ++ wsX30)
def wsX3_countAt : List Cond := .code yX3_countAt cX3_countAt 4 (some .int) :: ([.methodLink RX3 45 yX3_restAt, .instanceMethod yX3_restAt, .selects RX3 yX3_restAt yX3_restAt, .initialized RX3, .code yX3_restAt cX3_restAt 3 (some .int), .fieldLink RX3 15 "StruckCounts$Tally" "rests" "[I", .methodLink RX3 39 yX3_has, .instanceMethod yX3_has, .selects RX3 yX3_has yX3_has, .code yX3_has cX3_has 2 (some .boolean), .fieldLink RX3 26 "StruckCounts$Tally" "size" "I", .static yX6_outside, .initialized RX6, .code yX6_outside cX6_outside 3 (some .boolean)] ++ wsX30)
def wsX0_countLeft_r1 : List Cond := [Cond.methodLink RX0 52 yX0_tally, Cond.instanceMethod yX0_tally, Cond.selects RX0 yX0_tally yX0_tally, Cond.initialized RX0, Cond.code yX0_tally cX0_tally 1 (some (.object "StruckCounts$Tally")), Cond.fieldLink RX0 37 "StruckCounts$Board" "tallied" "I", Cond.fieldLink RX0 12 "StruckCounts$Board" "tally" "LStruckCounts$Tally;", Cond.fieldLink RX0 26 "StruckCounts$Board" "bound" "I", Cond.fieldLink RX0 30 "StruckCounts$Board" "came" "I", Cond.methodLink RX0 40 yX3_begin, Cond.instanceMethod yX3_begin, Cond.selects RX3 yX3_begin yX3_begin, Cond.initialized RX3, Cond.code yX3_begin cX3_begin 4 none, Cond.fieldLink RX3 22 "StruckCounts$Tally" "bound" "I", Cond.fieldLink RX3 26 "StruckCounts$Tally" "size" "I", Cond.methodLink RX3 33 Lib.Math.max.name, Cond.static Lib.Math.max.name, Cond.initialized "java/lang/Math", Cond.code Lib.Math.max.name Lib.Math.max.code 2 (some .int), Cond.methodLink RX3 29 yX3_fill, Cond.instanceMethod yX3_fill, Cond.selects RX3 yX3_fill yX3_fill, Cond.code yX3_fill cX3_fill 4 none]
def wsX0_countLeft_r2 : List Cond := [Cond.fieldLink RX3 11 "StruckCounts$Tally" "values" "[I", Cond.fieldLink RX3 18 "StruckCounts$Tally" "sums" "[J", Cond.constantLong RX3 43 (2), Cond.fieldLink RX3 15 "StruckCounts$Tally" "rests" "[I", Cond.methodLink RX3 39 yX3_has, Cond.instanceMethod yX3_has, Cond.selects RX3 yX3_has yX3_has, Cond.code yX3_has cX3_has 2 (some .boolean), Cond.methodLink RX0 41 yX0_hasStruck, Cond.instanceMethod yX0_hasStruck, Cond.selects RX0 yX0_hasStruck yX0_hasStruck, Cond.code yX0_hasStruck cX0_hasStruck 2 (some .boolean), Cond.fieldLink RX0 33 "StruckCounts$Board" "struck" "J", Cond.methodLink RX0 45 yX0_primeAt, Cond.instanceMethod yX0_primeAt, Cond.selects RX0 yX0_primeAt yX0_primeAt, Cond.code yX0_primeAt cX0_primeAt 2 (some .int), Cond.methodLink RX0 49 yX3_remove, Cond.instanceMethod yX3_remove, Cond.selects RX3 yX3_remove yX3_remove, Cond.code yX3_remove cX3_remove 5 none, Cond.methodLink RX3 52 yX3_valueAt, Cond.instanceMethod yX3_valueAt, Cond.selects RX3 yX3_valueAt yX3_valueAt]
def wsX0_countLeft_r3 : List Cond := [Cond.code yX3_valueAt cX3_valueAt 2 (some .int), Cond.methodLink RX3 56 yX3_placeOf, Cond.instanceMethod yX3_placeOf, Cond.selects RX3 yX3_placeOf yX3_placeOf, Cond.code yX3_placeOf cX3_placeOf 3 (some .int), Cond.methodLink RX0 55 yX3_countAt, Cond.instanceMethod yX3_countAt, Cond.selects RX3 yX3_countAt yX3_countAt, Cond.code yX3_countAt cX3_countAt 4 (some .int), Cond.methodLink RX3 45 yX3_restAt, Cond.instanceMethod yX3_restAt, Cond.selects RX3 yX3_restAt yX3_restAt, Cond.code yX3_restAt cX3_restAt 3 (some .int), Cond.static yX6_outside, Cond.initialized RX6, Cond.code yX6_outside cX6_outside 3 (some .boolean)]
def wsX0_countLeft : List Cond := .code yX0_countLeft cX0_countLeft 1 (some .int) :: ((wsX0_countLeft_r1 ++ (wsX0_countLeft_r2 ++ wsX0_countLeft_r3)) ++ wsX00 ++ wsX30)
def wsX0_nextPrime : List Cond := .code yX0_nextPrime cX0_nextPrime 2 (some .int) :: ([.fieldLink RX0 30 "StruckCounts$Board" "came" "I", .fieldLink RX0 26 "StruckCounts$Board" "bound" "I", .methodLink RX0 45 yX0_primeAt, .instanceMethod yX0_primeAt, .selects RX0 yX0_primeAt yX0_primeAt, .initialized RX0, .code yX0_primeAt cX0_primeAt 2 (some .int)] ++ wsX00)
def wsX0_letCome : List Cond := .code yX0_letCome cX0_letCome 2 (some .boolean) :: ([.fieldLink RX0 33 "StruckCounts$Board" "struck" "J", .fieldLink RX0 30 "StruckCounts$Board" "came" "I", .methodLink RX0 62 yX0_nextPrime, .instanceMethod yX0_nextPrime, .selects RX0 yX0_nextPrime yX0_nextPrime, .initialized RX0, .code yX0_nextPrime cX0_nextPrime 2 (some .int), .fieldLink RX0 26 "StruckCounts$Board" "bound" "I", .methodLink RX0 45 yX0_primeAt, .instanceMethod yX0_primeAt, .selects RX0 yX0_primeAt yX0_primeAt, .code yX0_primeAt cX0_primeAt 2 (some .int)] ++ wsX00)
def wsX0_letStrikeUpTo : List Cond := .code yX0_letStrikeUpTo cX0_letStrikeUpTo 3 (some .int) :: ([.methodLink RX0 62 yX0_nextPrime, .instanceMethod yX0_nextPrime, .selects RX0 yX0_nextPrime yX0_nextPrime, .initialized RX0, .code yX0_nextPrime cX0_nextPrime 2 (some .int), .fieldLink RX0 30 "StruckCounts$Board" "came" "I", .fieldLink RX0 26 "StruckCounts$Board" "bound" "I", .methodLink RX0 45 yX0_primeAt, .instanceMethod yX0_primeAt, .selects RX0 yX0_primeAt yX0_primeAt, .code yX0_primeAt cX0_primeAt 2 (some .int), .methodLink RX0 66 yX0_letCome, .instanceMethod yX0_letCome, .selects RX0 yX0_letCome yX0_letCome, .code yX0_letCome cX0_letCome 2 (some .boolean), .fieldLink RX0 33 "StruckCounts$Board" "struck" "J"] ++ wsX00)
def wsX1_init : List Cond := .code yX1_init cX1_init 6 none :: ([.methodLink RX1 5 objectInit, .instanceMethod objectInit, .code objectInit ⟨#[0xb1]⟩ 1 none, .arrayClass .long, .fieldLink RX1 11 "StruckCounts$Primes" "row" "[J", .constantLong RX1 15 (-1), .constantLong RX1 17 (-2), .constant RX1 23 (50048)] ++ wsX10)
def wsX2_init : List Cond := .code yX2_init cX2_init 1 none :: ([.methodLink RX2 3 objectInit, .instanceMethod objectInit, .code objectInit ⟨#[0xb1]⟩ 1 none, .arrayClass .int, .fieldLink RX2 11 "StruckCounts$Store" "bounds" "[I", .fieldLink RX2 15 "StruckCounts$Store" "cames" "[I", .arrayClass .long, .fieldLink RX2 18 "StruckCounts$Store" "strucks" "[J"] ++ wsX20)
def wsX2_put : List Cond := .code yX2_put cX2_put 3 none :: ([.fieldLink RX2 11 "StruckCounts$Store" "bounds" "[I", .fieldLink RX2 15 "StruckCounts$Store" "cames" "[I", .fieldLink RX2 18 "StruckCounts$Store" "strucks" "[J", .static yX6_outside, .initialized RX6, .code yX6_outside cX6_outside 3 (some .boolean)] ++ wsX20 ++ wsX00)
def wsX2_remember : List Cond := .code yX2_remember cX2_remember 2 none :: ([.fieldLink RX2 26 "StruckCounts$Store" "newest" "I", .fieldLink RX2 22 "StruckCounts$Store" "remembered" "I", .methodLink RX2 33 Lib.Math.min.name, .static Lib.Math.min.name, .initialized "java/lang/Math", .code Lib.Math.min.name Lib.Math.min.code 2 (some .int), .methodLink RX2 29 yX2_put, .instanceMethod yX2_put, .selects RX2 yX2_put yX2_put, .initialized RX2, .code yX2_put cX2_put 3 none, .fieldLink RX2 11 "StruckCounts$Store" "bounds" "[I", .fieldLink RX2 15 "StruckCounts$Store" "cames" "[I", .fieldLink RX2 18 "StruckCounts$Store" "strucks" "[J", .static yX6_outside, .initialized RX6, .code yX6_outside cX6_outside 3 (some .boolean)] ++ wsX20 ++ wsX00)
def wsX2_show : List Cond := .code yX2_show cX2_show 3 none :: ([.fieldLink RX2 11 "StruckCounts$Store" "bounds" "[I", .fieldLink RX2 15 "StruckCounts$Store" "cames" "[I", .fieldLink RX2 18 "StruckCounts$Store" "strucks" "[J", .static yX6_outside, .initialized RX6, .code yX6_outside cX6_outside 3 (some .boolean), .methodLink RX2 61 yX0_show, .instanceMethod yX0_show, .selects RX0 yX0_show yX0_show, .initialized RX0, .code yX0_show cX0_show 5 none, .fieldLink RX0 26 "StruckCounts$Board" "bound" "I", .fieldLink RX0 30 "StruckCounts$Board" "came" "I", .fieldLink RX0 33 "StruckCounts$Board" "struck" "J", .fieldLink RX0 37 "StruckCounts$Board" "tallied" "I"] ++ wsX20 ++ wsX00)
def wsX2_takeBack_r1 : List Cond := [Cond.fieldLink RX2 26 "StruckCounts$Store" "newest" "I", Cond.fieldLink RX2 22 "StruckCounts$Store" "remembered" "I", Cond.methodLink RX2 42 Lib.Math.max.name, Cond.static Lib.Math.max.name, Cond.initialized "java/lang/Math", Cond.code Lib.Math.max.name Lib.Math.max.code 2 (some .int), Cond.methodLink RX2 39 yX2_show, Cond.instanceMethod yX2_show, Cond.selects RX2 yX2_show yX2_show, Cond.initialized RX2, Cond.code yX2_show cX2_show 3 none, Cond.fieldLink RX2 11 "StruckCounts$Store" "bounds" "[I", Cond.fieldLink RX2 15 "StruckCounts$Store" "cames" "[I", Cond.fieldLink RX2 18 "StruckCounts$Store" "strucks" "[J", Cond.static yX6_outside, Cond.initialized RX6, Cond.code yX6_outside cX6_outside 3 (some .boolean), Cond.methodLink RX2 61 yX0_show, Cond.instanceMethod yX0_show, Cond.selects RX0 yX0_show yX0_show, Cond.initialized RX0, Cond.code yX0_show cX0_show 5 none, Cond.fieldLink RX0 26 "StruckCounts$Board" "bound" "I", Cond.fieldLink RX0 30 "StruckCounts$Board" "came" "I"]
def wsX2_takeBack_r2 : List Cond := [Cond.fieldLink RX0 33 "StruckCounts$Board" "struck" "J", Cond.fieldLink RX0 37 "StruckCounts$Board" "tallied" "I"]
def wsX2_takeBack : List Cond := .code yX2_takeBack cX2_takeBack 2 none :: ((wsX2_takeBack_r1 ++ wsX2_takeBack_r2) ++ wsX20 ++ wsX00)
def wsX3_sumAt : List Cond := .code yX3_sumAt cX3_sumAt 2 (some .long) :: ([.fieldLink RX3 18 "StruckCounts$Tally" "sums" "[J", .methodLink RX3 39 yX3_has, .instanceMethod yX3_has, .selects RX3 yX3_has yX3_has, .initialized RX3, .code yX3_has cX3_has 2 (some .boolean), .fieldLink RX3 26 "StruckCounts$Tally" "size" "I"] ++ wsX30)
def wsX3_multiplesAt_r1 : List Cond := [Cond.methodLink RX3 52 yX3_valueAt, Cond.instanceMethod yX3_valueAt, Cond.selects RX3 yX3_valueAt yX3_valueAt, Cond.initialized RX3, Cond.code yX3_valueAt cX3_valueAt 2 (some .int), Cond.fieldLink RX3 11 "StruckCounts$Tally" "values" "[I", Cond.methodLink RX3 39 yX3_has, Cond.instanceMethod yX3_has, Cond.selects RX3 yX3_has yX3_has, Cond.code yX3_has cX3_has 2 (some .boolean), Cond.fieldLink RX3 26 "StruckCounts$Tally" "size" "I", Cond.methodLink RX3 56 yX3_placeOf, Cond.instanceMethod yX3_placeOf, Cond.selects RX3 yX3_placeOf yX3_placeOf, Cond.code yX3_placeOf cX3_placeOf 3 (some .int), Cond.fieldLink RX3 22 "StruckCounts$Tally" "bound" "I", Cond.methodLink RX3 59 yX3_countAt, Cond.instanceMethod yX3_countAt, Cond.selects RX3 yX3_countAt yX3_countAt, Cond.code yX3_countAt cX3_countAt 4 (some .int), Cond.methodLink RX3 45 yX3_restAt, Cond.instanceMethod yX3_restAt, Cond.selects RX3 yX3_restAt yX3_restAt, Cond.code yX3_restAt cX3_restAt 3 (some .int)]
def wsX3_multiplesAt_r2 : List Cond := [Cond.fieldLink RX3 15 "StruckCounts$Tally" "rests" "[I", Cond.static yX6_outside, Cond.initialized RX6, Cond.code yX6_outside cX6_outside 3 (some .boolean)]
def wsX3_multiplesAt : List Cond := .code yX3_multiplesAt cX3_multiplesAt 3 (some .int) :: ((wsX3_multiplesAt_r1 ++ wsX3_multiplesAt_r2) ++ wsX30)
def wsX4_init : List Cond := .code yX4_init cX4_init 1 none :: ([.methodLink RX4 3 objectInit, .instanceMethod objectInit, .code objectInit ⟨#[0xb1]⟩ 1 none, .arrayClass .char, .fieldLink RX4 9 "StruckCounts$Text" "signs" "[C"] ++ wsX40)
def wsX6_init_r1 : List Cond := [Cond.methodLink RX6 1 objectInit, Cond.instanceMethod objectInit, Cond.code objectInit ⟨#[0xb1]⟩ 1 none, Cond.classLink RX6 7 RX4, Cond.instantiable RX4 7, Cond.initialized RX4, Cond.fieldLink RX6 10 "StruckCounts" "text" "LStruckCounts$Text;", Cond.classLink RX6 16 RX0, Cond.instantiable RX0 5, Cond.initialized RX0, Cond.fieldLink RX6 19 "StruckCounts" "board" "LStruckCounts$Board;", Cond.classLink RX6 23 RX2, Cond.instantiable RX2 5, Cond.initialized RX2, Cond.fieldLink RX6 26 "StruckCounts" "store" "LStruckCounts$Store;", Cond.classLink RX6 30 RX1, Cond.instantiable RX1 1, Cond.initialized RX1, Cond.fieldLink RX6 33 "StruckCounts" "primeRow" "LStruckCounts$Primes;", Cond.fieldLink RX6 37 "StruckCounts" "trial" "LStruckCounts$Board;", Cond.instanceMethod yX4_init, Cond.code yX4_init cX4_init 1 none, Cond.methodLink RX4 3 objectInit, Cond.arrayClass .char]
def wsX6_init_r2 : List Cond := [Cond.fieldLink RX4 9 "StruckCounts$Text" "signs" "[C", Cond.methodLink RX6 18 yX0_init, Cond.instanceMethod yX0_init, Cond.code yX0_init cX0_init 1 none, Cond.methodLink RX0 3 objectInit, Cond.classLink RX0 9 RX3, Cond.instantiable RX3 5, Cond.initialized RX3, Cond.fieldLink RX0 12 "StruckCounts$Board" "tally" "LStruckCounts$Tally;", Cond.instanceMethod yX3_init, Cond.code yX3_init cX3_init 1 none, Cond.methodLink RX3 3 objectInit, Cond.arrayClass .int, Cond.fieldLink RX3 11 "StruckCounts$Tally" "values" "[I", Cond.fieldLink RX3 15 "StruckCounts$Tally" "rests" "[I", Cond.arrayClass .long, Cond.fieldLink RX3 18 "StruckCounts$Tally" "sums" "[J", Cond.methodLink RX0 18 yX0_begin, Cond.instanceMethod yX0_begin, Cond.selects RX0 yX0_begin yX0_begin, Cond.code yX0_begin cX0_begin 2 none, Cond.methodLink RX0 22 yX0_show, Cond.instanceMethod yX0_show, Cond.selects RX0 yX0_show yX0_show]
def wsX6_init_r3 : List Cond := [Cond.code yX0_show cX0_show 5 none, Cond.fieldLink RX0 26 "StruckCounts$Board" "bound" "I", Cond.fieldLink RX0 30 "StruckCounts$Board" "came" "I", Cond.fieldLink RX0 33 "StruckCounts$Board" "struck" "J", Cond.fieldLink RX0 37 "StruckCounts$Board" "tallied" "I", Cond.instanceMethod yX2_init, Cond.code yX2_init cX2_init 1 none, Cond.methodLink RX2 3 objectInit, Cond.fieldLink RX2 11 "StruckCounts$Store" "bounds" "[I", Cond.fieldLink RX2 15 "StruckCounts$Store" "cames" "[I", Cond.fieldLink RX2 18 "StruckCounts$Store" "strucks" "[J", Cond.methodLink RX6 32 yX1_init, Cond.instanceMethod yX1_init, Cond.code yX1_init cX1_init 6 none, Cond.methodLink RX1 5 objectInit, Cond.fieldLink RX1 11 "StruckCounts$Primes" "row" "[J", Cond.constantLong RX1 15 (-1), Cond.constantLong RX1 17 (-2), Cond.constant RX1 23 (50048)]
def wsX6_init : List Cond := .code yX6_init cX6_init 1 none :: ((wsX6_init_r1 ++ (wsX6_init_r2 ++ wsX6_init_r3)) ++ wsX40 ++ wsX60 ++ wsX00 ++ wsX20 ++ wsX10 ++ wsX30)
def wsJ13_bitCount_95d88 : List Cond := .code yJ13_bitCount_95d88 cJ13_bitCount_95d88 2 (some .int) :: ([.constantLong RJ13 314 (6148914691236517205), .constantLong RJ13 316 (3689348814741910323), .constantLong RJ13 318 (1085102592571150095)])
def wsX6_about_r1 : List Cond := [Cond.classLink RX6 44 "java/lang/IllegalArgumentException", Cond.initialized "java/lang/IllegalArgumentException", Cond.fieldLink RX6 19 "StruckCounts" "board" "LStruckCounts$Board;", Cond.methodLink RX6 119 yX0_tally, Cond.instanceMethod yX0_tally, Cond.selects RX0 yX0_tally yX0_tally, Cond.initialized RX0, Cond.code yX0_tally cX0_tally 1 (some (.object "StruckCounts$Tally")), Cond.fieldLink RX0 37 "StruckCounts$Board" "tallied" "I", Cond.fieldLink RX0 12 "StruckCounts$Board" "tally" "LStruckCounts$Tally;", Cond.fieldLink RX0 26 "StruckCounts$Board" "bound" "I", Cond.fieldLink RX0 30 "StruckCounts$Board" "came" "I", Cond.methodLink RX0 40 yX3_begin, Cond.instanceMethod yX3_begin, Cond.selects RX3 yX3_begin yX3_begin, Cond.initialized RX3, Cond.code yX3_begin cX3_begin 4 none, Cond.fieldLink RX3 22 "StruckCounts$Tally" "bound" "I", Cond.fieldLink RX3 26 "StruckCounts$Tally" "size" "I", Cond.methodLink RX3 33 Lib.Math.max.name, Cond.static Lib.Math.max.name, Cond.initialized "java/lang/Math", Cond.code Lib.Math.max.name Lib.Math.max.code 2 (some .int), Cond.methodLink RX3 29 yX3_fill]
def wsX6_about_r2 : List Cond := [Cond.instanceMethod yX3_fill, Cond.selects RX3 yX3_fill yX3_fill, Cond.code yX3_fill cX3_fill 4 none, Cond.fieldLink RX3 11 "StruckCounts$Tally" "values" "[I", Cond.fieldLink RX3 18 "StruckCounts$Tally" "sums" "[J", Cond.constantLong RX3 43 (2), Cond.fieldLink RX3 15 "StruckCounts$Tally" "rests" "[I", Cond.methodLink RX3 39 yX3_has, Cond.instanceMethod yX3_has, Cond.selects RX3 yX3_has yX3_has, Cond.code yX3_has cX3_has 2 (some .boolean), Cond.methodLink RX0 41 yX0_hasStruck, Cond.instanceMethod yX0_hasStruck, Cond.selects RX0 yX0_hasStruck yX0_hasStruck, Cond.code yX0_hasStruck cX0_hasStruck 2 (some .boolean), Cond.fieldLink RX0 33 "StruckCounts$Board" "struck" "J", Cond.methodLink RX0 45 yX0_primeAt, Cond.instanceMethod yX0_primeAt, Cond.selects RX0 yX0_primeAt yX0_primeAt, Cond.code yX0_primeAt cX0_primeAt 2 (some .int), Cond.methodLink RX0 49 yX3_remove, Cond.instanceMethod yX3_remove, Cond.selects RX3 yX3_remove yX3_remove, Cond.code yX3_remove cX3_remove 5 none]
def wsX6_about_r3 : List Cond := [Cond.methodLink RX3 52 yX3_valueAt, Cond.instanceMethod yX3_valueAt, Cond.selects RX3 yX3_valueAt yX3_valueAt, Cond.code yX3_valueAt cX3_valueAt 2 (some .int), Cond.methodLink RX3 56 yX3_placeOf, Cond.instanceMethod yX3_placeOf, Cond.selects RX3 yX3_placeOf yX3_placeOf, Cond.code yX3_placeOf cX3_placeOf 3 (some .int), Cond.methodLink RX6 132 yJ13_bitCount_95d88, Cond.static yJ13_bitCount_95d88, Cond.initialized RJ13, Cond.code yJ13_bitCount_95d88 cJ13_bitCount_95d88 2 (some .int), Cond.constantLong RJ13 314 (6148914691236517205), Cond.constantLong RJ13 316 (3689348814741910323), Cond.constantLong RJ13 318 (1085102592571150095), Cond.methodLink RX6 141 yX0_countLeft, Cond.instanceMethod yX0_countLeft, Cond.selects RX0 yX0_countLeft yX0_countLeft, Cond.code yX0_countLeft cX0_countLeft 1 (some .int), Cond.methodLink RX0 52 yX0_tally, Cond.methodLink RX0 55 yX3_countAt, Cond.instanceMethod yX3_countAt, Cond.selects RX3 yX3_countAt yX3_countAt, Cond.code yX3_countAt cX3_countAt 4 (some .int)]
def wsX6_about_r4 : List Cond := [Cond.methodLink RX3 45 yX3_restAt, Cond.instanceMethod yX3_restAt, Cond.selects RX3 yX3_restAt yX3_restAt, Cond.code yX3_restAt cX3_restAt 3 (some .int), Cond.static yX6_outside, Cond.initialized RX6, Cond.code yX6_outside cX6_outside 3 (some .boolean), Cond.methodLink RX6 144 yX0_nextPrime, Cond.instanceMethod yX0_nextPrime, Cond.selects RX0 yX0_nextPrime yX0_nextPrime, Cond.code yX0_nextPrime cX0_nextPrime 2 (some .int), Cond.methodLink RX6 147 yX0_primeAt]
def wsX6_about : List Cond := .code yX6_about cX6_about 2 (some .int) :: ((wsX6_about_r1 ++ (wsX6_about_r2 ++ (wsX6_about_r3 ++ wsX6_about_r4))) ++ wsX60 ++ wsX00 ++ wsX30 ++ (vx_atS RX6 48 "java/lang/IllegalArgumentException" ["java/lang/RuntimeException", "java/lang/Exception"]).filter goodWord)
def wsX6_checkQuotient_r1 : List Cond := [Cond.classLink RX6 279 "java/lang/IndexOutOfBoundsException", Cond.initialized "java/lang/IndexOutOfBoundsException", Cond.fieldLink RX6 19 "StruckCounts" "board" "LStruckCounts$Board;", Cond.methodLink RX6 119 yX0_tally, Cond.instanceMethod yX0_tally, Cond.selects RX0 yX0_tally yX0_tally, Cond.initialized RX0, Cond.code yX0_tally cX0_tally 1 (some (.object "StruckCounts$Tally")), Cond.fieldLink RX0 37 "StruckCounts$Board" "tallied" "I", Cond.fieldLink RX0 12 "StruckCounts$Board" "tally" "LStruckCounts$Tally;", Cond.fieldLink RX0 26 "StruckCounts$Board" "bound" "I", Cond.fieldLink RX0 30 "StruckCounts$Board" "came" "I", Cond.methodLink RX0 40 yX3_begin, Cond.instanceMethod yX3_begin, Cond.selects RX3 yX3_begin yX3_begin, Cond.initialized RX3, Cond.code yX3_begin cX3_begin 4 none, Cond.fieldLink RX3 22 "StruckCounts$Tally" "bound" "I", Cond.fieldLink RX3 26 "StruckCounts$Tally" "size" "I", Cond.methodLink RX3 33 Lib.Math.max.name, Cond.static Lib.Math.max.name, Cond.initialized "java/lang/Math", Cond.code Lib.Math.max.name Lib.Math.max.code 2 (some .int), Cond.methodLink RX3 29 yX3_fill]
def wsX6_checkQuotient_r2 : List Cond := [Cond.instanceMethod yX3_fill, Cond.selects RX3 yX3_fill yX3_fill, Cond.code yX3_fill cX3_fill 4 none, Cond.fieldLink RX3 11 "StruckCounts$Tally" "values" "[I", Cond.fieldLink RX3 18 "StruckCounts$Tally" "sums" "[J", Cond.constantLong RX3 43 (2), Cond.fieldLink RX3 15 "StruckCounts$Tally" "rests" "[I", Cond.methodLink RX3 39 yX3_has, Cond.instanceMethod yX3_has, Cond.selects RX3 yX3_has yX3_has, Cond.code yX3_has cX3_has 2 (some .boolean), Cond.methodLink RX0 41 yX0_hasStruck, Cond.instanceMethod yX0_hasStruck, Cond.selects RX0 yX0_hasStruck yX0_hasStruck, Cond.code yX0_hasStruck cX0_hasStruck 2 (some .boolean), Cond.fieldLink RX0 33 "StruckCounts$Board" "struck" "J", Cond.methodLink RX0 45 yX0_primeAt, Cond.instanceMethod yX0_primeAt, Cond.selects RX0 yX0_primeAt yX0_primeAt, Cond.code yX0_primeAt cX0_primeAt 2 (some .int), Cond.methodLink RX0 49 yX3_remove, Cond.instanceMethod yX3_remove, Cond.selects RX3 yX3_remove yX3_remove, Cond.code yX3_remove cX3_remove 5 none]
def wsX6_checkQuotient_r3 : List Cond := [Cond.methodLink RX3 52 yX3_valueAt, Cond.instanceMethod yX3_valueAt, Cond.selects RX3 yX3_valueAt yX3_valueAt, Cond.code yX3_valueAt cX3_valueAt 2 (some .int), Cond.methodLink RX3 56 yX3_placeOf, Cond.instanceMethod yX3_placeOf, Cond.selects RX3 yX3_placeOf yX3_placeOf, Cond.code yX3_placeOf cX3_placeOf 3 (some .int)]
def wsX6_checkQuotient : List Cond := .code yX6_checkQuotient cX6_checkQuotient 2 none :: ((wsX6_checkQuotient_r1 ++ (wsX6_checkQuotient_r2 ++ wsX6_checkQuotient_r3)) ++ wsX60 ++ wsX30 ++ wsX00 ++ (vx_atS RX6 283 "java/lang/IndexOutOfBoundsException" ["java/lang/RuntimeException", "java/lang/Exception"]).filter goodWord)
def wsX6_quotient_r1 : List Cond := [Cond.fieldLink RX6 19 "StruckCounts" "board" "LStruckCounts$Board;", Cond.methodLink RX6 153 yX6_checkQuotient, Cond.instanceMethod yX6_checkQuotient, Cond.selects RX6 yX6_checkQuotient yX6_checkQuotient, Cond.initialized RX6, Cond.code yX6_checkQuotient cX6_checkQuotient 2 none, Cond.classLink RX6 279 "java/lang/IndexOutOfBoundsException", Cond.initialized "java/lang/IndexOutOfBoundsException", Cond.methodLink RX6 119 yX0_tally, Cond.instanceMethod yX0_tally, Cond.selects RX0 yX0_tally yX0_tally, Cond.initialized RX0, Cond.code yX0_tally cX0_tally 1 (some (.object "StruckCounts$Tally")), Cond.fieldLink RX0 37 "StruckCounts$Board" "tallied" "I", Cond.fieldLink RX0 12 "StruckCounts$Board" "tally" "LStruckCounts$Tally;", Cond.fieldLink RX0 26 "StruckCounts$Board" "bound" "I", Cond.fieldLink RX0 30 "StruckCounts$Board" "came" "I", Cond.methodLink RX0 40 yX3_begin, Cond.instanceMethod yX3_begin, Cond.selects RX3 yX3_begin yX3_begin, Cond.initialized RX3, Cond.code yX3_begin cX3_begin 4 none, Cond.fieldLink RX3 22 "StruckCounts$Tally" "bound" "I", Cond.fieldLink RX3 26 "StruckCounts$Tally" "size" "I"]
def wsX6_quotient_r2 : List Cond := [Cond.methodLink RX3 33 Lib.Math.max.name, Cond.static Lib.Math.max.name, Cond.initialized "java/lang/Math", Cond.code Lib.Math.max.name Lib.Math.max.code 2 (some .int), Cond.methodLink RX3 29 yX3_fill, Cond.instanceMethod yX3_fill, Cond.selects RX3 yX3_fill yX3_fill, Cond.code yX3_fill cX3_fill 4 none, Cond.fieldLink RX3 11 "StruckCounts$Tally" "values" "[I", Cond.fieldLink RX3 18 "StruckCounts$Tally" "sums" "[J", Cond.constantLong RX3 43 (2), Cond.fieldLink RX3 15 "StruckCounts$Tally" "rests" "[I", Cond.methodLink RX3 39 yX3_has, Cond.instanceMethod yX3_has, Cond.selects RX3 yX3_has yX3_has, Cond.code yX3_has cX3_has 2 (some .boolean), Cond.methodLink RX0 41 yX0_hasStruck, Cond.instanceMethod yX0_hasStruck, Cond.selects RX0 yX0_hasStruck yX0_hasStruck, Cond.code yX0_hasStruck cX0_hasStruck 2 (some .boolean), Cond.fieldLink RX0 33 "StruckCounts$Board" "struck" "J", Cond.methodLink RX0 45 yX0_primeAt, Cond.instanceMethod yX0_primeAt, Cond.selects RX0 yX0_primeAt yX0_primeAt]
def wsX6_quotient_r3 : List Cond := [Cond.code yX0_primeAt cX0_primeAt 2 (some .int), Cond.methodLink RX0 49 yX3_remove, Cond.instanceMethod yX3_remove, Cond.selects RX3 yX3_remove yX3_remove, Cond.code yX3_remove cX3_remove 5 none, Cond.methodLink RX3 52 yX3_valueAt, Cond.instanceMethod yX3_valueAt, Cond.selects RX3 yX3_valueAt yX3_valueAt, Cond.code yX3_valueAt cX3_valueAt 2 (some .int), Cond.methodLink RX3 56 yX3_placeOf, Cond.instanceMethod yX3_placeOf, Cond.selects RX3 yX3_placeOf yX3_placeOf, Cond.code yX3_placeOf cX3_placeOf 3 (some .int), Cond.methodLink RX6 156 yX3_valueAt]
def wsX6_quotient : List Cond := .code yX6_quotient cX6_quotient 2 (some .int) :: ((wsX6_quotient_r1 ++ (wsX6_quotient_r2 ++ wsX6_quotient_r3)) ++ wsX60 ++ wsX30 ++ wsX00 ++ (vx_atS RX6 283 "java/lang/IndexOutOfBoundsException" ["java/lang/RuntimeException", "java/lang/Exception"]).filter goodWord)
def wsX6_quotientOf_r1 : List Cond := [Cond.fieldLink RX6 19 "StruckCounts" "board" "LStruckCounts$Board;", Cond.methodLink RX6 119 yX0_tally, Cond.instanceMethod yX0_tally, Cond.selects RX0 yX0_tally yX0_tally, Cond.initialized RX0, Cond.code yX0_tally cX0_tally 1 (some (.object "StruckCounts$Tally")), Cond.fieldLink RX0 37 "StruckCounts$Board" "tallied" "I", Cond.fieldLink RX0 12 "StruckCounts$Board" "tally" "LStruckCounts$Tally;", Cond.fieldLink RX0 26 "StruckCounts$Board" "bound" "I", Cond.fieldLink RX0 30 "StruckCounts$Board" "came" "I", Cond.methodLink RX0 40 yX3_begin, Cond.instanceMethod yX3_begin, Cond.selects RX3 yX3_begin yX3_begin, Cond.initialized RX3, Cond.code yX3_begin cX3_begin 4 none, Cond.fieldLink RX3 22 "StruckCounts$Tally" "bound" "I", Cond.fieldLink RX3 26 "StruckCounts$Tally" "size" "I", Cond.methodLink RX3 33 Lib.Math.max.name, Cond.static Lib.Math.max.name, Cond.initialized "java/lang/Math", Cond.code Lib.Math.max.name Lib.Math.max.code 2 (some .int), Cond.methodLink RX3 29 yX3_fill, Cond.instanceMethod yX3_fill, Cond.selects RX3 yX3_fill yX3_fill]
def wsX6_quotientOf_r2 : List Cond := [Cond.code yX3_fill cX3_fill 4 none, Cond.fieldLink RX3 11 "StruckCounts$Tally" "values" "[I", Cond.fieldLink RX3 18 "StruckCounts$Tally" "sums" "[J", Cond.constantLong RX3 43 (2), Cond.fieldLink RX3 15 "StruckCounts$Tally" "rests" "[I", Cond.methodLink RX3 39 yX3_has, Cond.instanceMethod yX3_has, Cond.selects RX3 yX3_has yX3_has, Cond.code yX3_has cX3_has 2 (some .boolean), Cond.methodLink RX0 41 yX0_hasStruck, Cond.instanceMethod yX0_hasStruck, Cond.selects RX0 yX0_hasStruck yX0_hasStruck, Cond.code yX0_hasStruck cX0_hasStruck 2 (some .boolean), Cond.fieldLink RX0 33 "StruckCounts$Board" "struck" "J", Cond.methodLink RX0 45 yX0_primeAt, Cond.instanceMethod yX0_primeAt, Cond.selects RX0 yX0_primeAt yX0_primeAt, Cond.code yX0_primeAt cX0_primeAt 2 (some .int), Cond.methodLink RX0 49 yX3_remove, Cond.instanceMethod yX3_remove, Cond.selects RX3 yX3_remove yX3_remove, Cond.code yX3_remove cX3_remove 5 none, Cond.methodLink RX3 52 yX3_valueAt, Cond.instanceMethod yX3_valueAt]
def wsX6_quotientOf_r3 : List Cond := [Cond.selects RX3 yX3_valueAt yX3_valueAt, Cond.code yX3_valueAt cX3_valueAt 2 (some .int), Cond.methodLink RX3 56 yX3_placeOf, Cond.instanceMethod yX3_placeOf, Cond.selects RX3 yX3_placeOf yX3_placeOf, Cond.code yX3_placeOf cX3_placeOf 3 (some .int), Cond.methodLink RX6 159 yX3_placeOf]
def wsX6_quotientOf : List Cond := .code yX6_quotientOf cX6_quotientOf 2 (some .int) :: ((wsX6_quotientOf_r1 ++ (wsX6_quotientOf_r2 ++ wsX6_quotientOf_r3)) ++ wsX60 ++ wsX00 ++ wsX30)
def wsX6_left_r1 : List Cond := [Cond.fieldLink RX6 19 "StruckCounts" "board" "LStruckCounts$Board;", Cond.methodLink RX6 153 yX6_checkQuotient, Cond.instanceMethod yX6_checkQuotient, Cond.selects RX6 yX6_checkQuotient yX6_checkQuotient, Cond.initialized RX6, Cond.code yX6_checkQuotient cX6_checkQuotient 2 none, Cond.classLink RX6 279 "java/lang/IndexOutOfBoundsException", Cond.initialized "java/lang/IndexOutOfBoundsException", Cond.methodLink RX6 119 yX0_tally, Cond.instanceMethod yX0_tally, Cond.selects RX0 yX0_tally yX0_tally, Cond.initialized RX0, Cond.code yX0_tally cX0_tally 1 (some (.object "StruckCounts$Tally")), Cond.fieldLink RX0 37 "StruckCounts$Board" "tallied" "I", Cond.fieldLink RX0 12 "StruckCounts$Board" "tally" "LStruckCounts$Tally;", Cond.fieldLink RX0 26 "StruckCounts$Board" "bound" "I", Cond.fieldLink RX0 30 "StruckCounts$Board" "came" "I", Cond.methodLink RX0 40 yX3_begin, Cond.instanceMethod yX3_begin, Cond.selects RX3 yX3_begin yX3_begin, Cond.initialized RX3, Cond.code yX3_begin cX3_begin 4 none, Cond.fieldLink RX3 22 "StruckCounts$Tally" "bound" "I", Cond.fieldLink RX3 26 "StruckCounts$Tally" "size" "I"]
def wsX6_left_r2 : List Cond := [Cond.methodLink RX3 33 Lib.Math.max.name, Cond.static Lib.Math.max.name, Cond.initialized "java/lang/Math", Cond.code Lib.Math.max.name Lib.Math.max.code 2 (some .int), Cond.methodLink RX3 29 yX3_fill, Cond.instanceMethod yX3_fill, Cond.selects RX3 yX3_fill yX3_fill, Cond.code yX3_fill cX3_fill 4 none, Cond.fieldLink RX3 11 "StruckCounts$Tally" "values" "[I", Cond.fieldLink RX3 18 "StruckCounts$Tally" "sums" "[J", Cond.constantLong RX3 43 (2), Cond.fieldLink RX3 15 "StruckCounts$Tally" "rests" "[I", Cond.methodLink RX3 39 yX3_has, Cond.instanceMethod yX3_has, Cond.selects RX3 yX3_has yX3_has, Cond.code yX3_has cX3_has 2 (some .boolean), Cond.methodLink RX0 41 yX0_hasStruck, Cond.instanceMethod yX0_hasStruck, Cond.selects RX0 yX0_hasStruck yX0_hasStruck, Cond.code yX0_hasStruck cX0_hasStruck 2 (some .boolean), Cond.fieldLink RX0 33 "StruckCounts$Board" "struck" "J", Cond.methodLink RX0 45 yX0_primeAt, Cond.instanceMethod yX0_primeAt, Cond.selects RX0 yX0_primeAt yX0_primeAt]
def wsX6_left_r3 : List Cond := [Cond.code yX0_primeAt cX0_primeAt 2 (some .int), Cond.methodLink RX0 49 yX3_remove, Cond.instanceMethod yX3_remove, Cond.selects RX3 yX3_remove yX3_remove, Cond.code yX3_remove cX3_remove 5 none, Cond.methodLink RX3 52 yX3_valueAt, Cond.instanceMethod yX3_valueAt, Cond.selects RX3 yX3_valueAt yX3_valueAt, Cond.code yX3_valueAt cX3_valueAt 2 (some .int), Cond.methodLink RX3 56 yX3_placeOf, Cond.instanceMethod yX3_placeOf, Cond.selects RX3 yX3_placeOf yX3_placeOf, Cond.code yX3_placeOf cX3_placeOf 3 (some .int), Cond.methodLink RX6 162 yX3_countAt, Cond.instanceMethod yX3_countAt, Cond.selects RX3 yX3_countAt yX3_countAt, Cond.code yX3_countAt cX3_countAt 4 (some .int), Cond.methodLink RX3 45 yX3_restAt, Cond.instanceMethod yX3_restAt, Cond.selects RX3 yX3_restAt yX3_restAt, Cond.code yX3_restAt cX3_restAt 3 (some .int), Cond.static yX6_outside, Cond.code yX6_outside cX6_outside 3 (some .boolean)]
def wsX6_left : List Cond := .code yX6_left cX6_left 2 (some .int) :: ((wsX6_left_r1 ++ (wsX6_left_r2 ++ wsX6_left_r3)) ++ wsX60 ++ wsX30 ++ wsX00 ++ (vx_atS RX6 283 "java/lang/IndexOutOfBoundsException" ["java/lang/RuntimeException", "java/lang/Exception"]).filter goodWord)
def wsX6_sumLeft_r1 : List Cond := [Cond.fieldLink RX6 19 "StruckCounts" "board" "LStruckCounts$Board;", Cond.methodLink RX6 153 yX6_checkQuotient, Cond.instanceMethod yX6_checkQuotient, Cond.selects RX6 yX6_checkQuotient yX6_checkQuotient, Cond.initialized RX6, Cond.code yX6_checkQuotient cX6_checkQuotient 2 none, Cond.classLink RX6 279 "java/lang/IndexOutOfBoundsException", Cond.initialized "java/lang/IndexOutOfBoundsException", Cond.methodLink RX6 119 yX0_tally, Cond.instanceMethod yX0_tally, Cond.selects RX0 yX0_tally yX0_tally, Cond.initialized RX0, Cond.code yX0_tally cX0_tally 1 (some (.object "StruckCounts$Tally")), Cond.fieldLink RX0 37 "StruckCounts$Board" "tallied" "I", Cond.fieldLink RX0 12 "StruckCounts$Board" "tally" "LStruckCounts$Tally;", Cond.fieldLink RX0 26 "StruckCounts$Board" "bound" "I", Cond.fieldLink RX0 30 "StruckCounts$Board" "came" "I", Cond.methodLink RX0 40 yX3_begin, Cond.instanceMethod yX3_begin, Cond.selects RX3 yX3_begin yX3_begin, Cond.initialized RX3, Cond.code yX3_begin cX3_begin 4 none, Cond.fieldLink RX3 22 "StruckCounts$Tally" "bound" "I", Cond.fieldLink RX3 26 "StruckCounts$Tally" "size" "I"]
def wsX6_sumLeft_r2 : List Cond := [Cond.methodLink RX3 33 Lib.Math.max.name, Cond.static Lib.Math.max.name, Cond.initialized "java/lang/Math", Cond.code Lib.Math.max.name Lib.Math.max.code 2 (some .int), Cond.methodLink RX3 29 yX3_fill, Cond.instanceMethod yX3_fill, Cond.selects RX3 yX3_fill yX3_fill, Cond.code yX3_fill cX3_fill 4 none, Cond.fieldLink RX3 11 "StruckCounts$Tally" "values" "[I", Cond.fieldLink RX3 18 "StruckCounts$Tally" "sums" "[J", Cond.constantLong RX3 43 (2), Cond.fieldLink RX3 15 "StruckCounts$Tally" "rests" "[I", Cond.methodLink RX3 39 yX3_has, Cond.instanceMethod yX3_has, Cond.selects RX3 yX3_has yX3_has, Cond.code yX3_has cX3_has 2 (some .boolean), Cond.methodLink RX0 41 yX0_hasStruck, Cond.instanceMethod yX0_hasStruck, Cond.selects RX0 yX0_hasStruck yX0_hasStruck, Cond.code yX0_hasStruck cX0_hasStruck 2 (some .boolean), Cond.fieldLink RX0 33 "StruckCounts$Board" "struck" "J", Cond.methodLink RX0 45 yX0_primeAt, Cond.instanceMethod yX0_primeAt, Cond.selects RX0 yX0_primeAt yX0_primeAt]
def wsX6_sumLeft_r3 : List Cond := [Cond.code yX0_primeAt cX0_primeAt 2 (some .int), Cond.methodLink RX0 49 yX3_remove, Cond.instanceMethod yX3_remove, Cond.selects RX3 yX3_remove yX3_remove, Cond.code yX3_remove cX3_remove 5 none, Cond.methodLink RX3 52 yX3_valueAt, Cond.instanceMethod yX3_valueAt, Cond.selects RX3 yX3_valueAt yX3_valueAt, Cond.code yX3_valueAt cX3_valueAt 2 (some .int), Cond.methodLink RX3 56 yX3_placeOf, Cond.instanceMethod yX3_placeOf, Cond.selects RX3 yX3_placeOf yX3_placeOf, Cond.code yX3_placeOf cX3_placeOf 3 (some .int), Cond.methodLink RX6 165 yX3_sumAt, Cond.instanceMethod yX3_sumAt, Cond.selects RX3 yX3_sumAt yX3_sumAt, Cond.code yX3_sumAt cX3_sumAt 2 (some .long)]
def wsX6_sumLeft : List Cond := .code yX6_sumLeft cX6_sumLeft 2 (some .long) :: ((wsX6_sumLeft_r1 ++ (wsX6_sumLeft_r2 ++ wsX6_sumLeft_r3)) ++ wsX60 ++ wsX30 ++ wsX00 ++ (vx_atS RX6 283 "java/lang/IndexOutOfBoundsException" ["java/lang/RuntimeException", "java/lang/Exception"]).filter goodWord)
def wsX6_restLeft_r1 : List Cond := [Cond.classLink RX6 44 "java/lang/IllegalArgumentException", Cond.initialized "java/lang/IllegalArgumentException", Cond.fieldLink RX6 19 "StruckCounts" "board" "LStruckCounts$Board;", Cond.methodLink RX6 153 yX6_checkQuotient, Cond.instanceMethod yX6_checkQuotient, Cond.selects RX6 yX6_checkQuotient yX6_checkQuotient, Cond.initialized RX6, Cond.code yX6_checkQuotient cX6_checkQuotient 2 none, Cond.classLink RX6 279 "java/lang/IndexOutOfBoundsException", Cond.initialized "java/lang/IndexOutOfBoundsException", Cond.methodLink RX6 119 yX0_tally, Cond.instanceMethod yX0_tally, Cond.selects RX0 yX0_tally yX0_tally, Cond.initialized RX0, Cond.code yX0_tally cX0_tally 1 (some (.object "StruckCounts$Tally")), Cond.fieldLink RX0 37 "StruckCounts$Board" "tallied" "I", Cond.fieldLink RX0 12 "StruckCounts$Board" "tally" "LStruckCounts$Tally;", Cond.fieldLink RX0 26 "StruckCounts$Board" "bound" "I", Cond.fieldLink RX0 30 "StruckCounts$Board" "came" "I", Cond.methodLink RX0 40 yX3_begin, Cond.instanceMethod yX3_begin, Cond.selects RX3 yX3_begin yX3_begin, Cond.initialized RX3, Cond.code yX3_begin cX3_begin 4 none]
def wsX6_restLeft_r2 : List Cond := [Cond.fieldLink RX3 22 "StruckCounts$Tally" "bound" "I", Cond.fieldLink RX3 26 "StruckCounts$Tally" "size" "I", Cond.methodLink RX3 33 Lib.Math.max.name, Cond.static Lib.Math.max.name, Cond.initialized "java/lang/Math", Cond.code Lib.Math.max.name Lib.Math.max.code 2 (some .int), Cond.methodLink RX3 29 yX3_fill, Cond.instanceMethod yX3_fill, Cond.selects RX3 yX3_fill yX3_fill, Cond.code yX3_fill cX3_fill 4 none, Cond.fieldLink RX3 11 "StruckCounts$Tally" "values" "[I", Cond.fieldLink RX3 18 "StruckCounts$Tally" "sums" "[J", Cond.constantLong RX3 43 (2), Cond.fieldLink RX3 15 "StruckCounts$Tally" "rests" "[I", Cond.methodLink RX3 39 yX3_has, Cond.instanceMethod yX3_has, Cond.selects RX3 yX3_has yX3_has, Cond.code yX3_has cX3_has 2 (some .boolean), Cond.methodLink RX0 41 yX0_hasStruck, Cond.instanceMethod yX0_hasStruck, Cond.selects RX0 yX0_hasStruck yX0_hasStruck, Cond.code yX0_hasStruck cX0_hasStruck 2 (some .boolean), Cond.fieldLink RX0 33 "StruckCounts$Board" "struck" "J", Cond.methodLink RX0 45 yX0_primeAt]
def wsX6_restLeft_r3 : List Cond := [Cond.instanceMethod yX0_primeAt, Cond.selects RX0 yX0_primeAt yX0_primeAt, Cond.code yX0_primeAt cX0_primeAt 2 (some .int), Cond.methodLink RX0 49 yX3_remove, Cond.instanceMethod yX3_remove, Cond.selects RX3 yX3_remove yX3_remove, Cond.code yX3_remove cX3_remove 5 none, Cond.methodLink RX3 52 yX3_valueAt, Cond.instanceMethod yX3_valueAt, Cond.selects RX3 yX3_valueAt yX3_valueAt, Cond.code yX3_valueAt cX3_valueAt 2 (some .int), Cond.methodLink RX3 56 yX3_placeOf, Cond.instanceMethod yX3_placeOf, Cond.selects RX3 yX3_placeOf yX3_placeOf, Cond.code yX3_placeOf cX3_placeOf 3 (some .int), Cond.methodLink RX6 40 yX6_outside, Cond.static yX6_outside, Cond.code yX6_outside cX6_outside 3 (some .boolean), Cond.methodLink RX6 171 yX3_restAt, Cond.instanceMethod yX3_restAt, Cond.selects RX3 yX3_restAt yX3_restAt, Cond.code yX3_restAt cX3_restAt 3 (some .int)]
def wsX6_restLeft : List Cond := .code yX6_restLeft cX6_restLeft 3 (some .int) :: ((wsX6_restLeft_r1 ++ (wsX6_restLeft_r2 ++ wsX6_restLeft_r3)) ++ wsX60 ++ wsX30 ++ wsX00 ++ (vx_atS RX6 48 "java/lang/IllegalArgumentException" ["java/lang/RuntimeException", "java/lang/Exception"]).filter goodWord ++ (vx_atS RX6 283 "java/lang/IndexOutOfBoundsException" ["java/lang/RuntimeException", "java/lang/Exception"]).filter goodWord)
def wsX6_came : List Cond := .code yX6_came cX6_came 3 (some .int) :: ([.classLink RX6 44 "java/lang/IllegalArgumentException", .initialized "java/lang/IllegalArgumentException", .fieldLink RX6 19 "StruckCounts" "board" "LStruckCounts$Board;", .methodLink RX6 147 yX0_primeAt, .instanceMethod yX0_primeAt, .selects RX0 yX0_primeAt yX0_primeAt, .initialized RX0, .code yX0_primeAt cX0_primeAt 2 (some .int), .methodLink RX6 176 yX0_hasStruck, .instanceMethod yX0_hasStruck, .selects RX0 yX0_hasStruck yX0_hasStruck, .code yX0_hasStruck cX0_hasStruck 2 (some .boolean), .fieldLink RX0 33 "StruckCounts$Board" "struck" "J"] ++ wsX60 ++ wsX00 ++ (vx_atS RX6 48 "java/lang/IllegalArgumentException" ["java/lang/RuntimeException", "java/lang/Exception"]).filter goodWord)
def wsX6_bound_r1 : List Cond := [Cond.classLink RX6 44 "java/lang/IllegalArgumentException", Cond.initialized "java/lang/IllegalArgumentException", Cond.constant RX6 180 (99999), Cond.fieldLink RX6 26 "StruckCounts" "store" "LStruckCounts$Store;", Cond.fieldLink RX6 19 "StruckCounts" "board" "LStruckCounts$Board;", Cond.methodLink RX6 40 yX6_outside, Cond.static yX6_outside, Cond.initialized RX6, Cond.code yX6_outside cX6_outside 3 (some .boolean), Cond.methodLink RX6 183 yX2_remember, Cond.instanceMethod yX2_remember, Cond.selects RX2 yX2_remember yX2_remember, Cond.initialized RX2, Cond.code yX2_remember cX2_remember 2 none, Cond.fieldLink RX2 26 "StruckCounts$Store" "newest" "I", Cond.fieldLink RX2 22 "StruckCounts$Store" "remembered" "I", Cond.methodLink RX2 33 Lib.Math.min.name, Cond.static Lib.Math.min.name, Cond.initialized "java/lang/Math", Cond.code Lib.Math.min.name Lib.Math.min.code 2 (some .int), Cond.methodLink RX2 29 yX2_put, Cond.instanceMethod yX2_put, Cond.selects RX2 yX2_put yX2_put, Cond.code yX2_put cX2_put 3 none]
def wsX6_bound_r2 : List Cond := [Cond.fieldLink RX2 11 "StruckCounts$Store" "bounds" "[I", Cond.fieldLink RX2 15 "StruckCounts$Store" "cames" "[I", Cond.fieldLink RX2 18 "StruckCounts$Store" "strucks" "[J", Cond.methodLink RX6 73 yX0_begin, Cond.instanceMethod yX0_begin, Cond.selects RX0 yX0_begin yX0_begin, Cond.initialized RX0, Cond.code yX0_begin cX0_begin 2 none, Cond.methodLink RX0 22 yX0_show, Cond.instanceMethod yX0_show, Cond.selects RX0 yX0_show yX0_show, Cond.code yX0_show cX0_show 5 none, Cond.fieldLink RX0 26 "StruckCounts$Board" "bound" "I", Cond.fieldLink RX0 30 "StruckCounts$Board" "came" "I", Cond.fieldLink RX0 33 "StruckCounts$Board" "struck" "J", Cond.fieldLink RX0 37 "StruckCounts$Board" "tallied" "I"]
def wsX6_bound : List Cond := .code yX6_bound cX6_bound 3 (some .int) :: ((wsX6_bound_r1 ++ wsX6_bound_r2) ++ wsX60 ++ wsX00 ++ wsX20 ++ (vx_atS RX6 48 "java/lang/IllegalArgumentException" ["java/lang/RuntimeException", "java/lang/Exception"]).filter goodWord)
def wsX6_checkNextPrime : List Cond := .code yX6_checkNextPrime cX6_checkNextPrime 1 none :: ([.classLink RX6 55 "java/lang/IllegalStateException", .initialized "java/lang/IllegalStateException", .fieldLink RX6 19 "StruckCounts" "board" "LStruckCounts$Board;", .methodLink RX6 144 yX0_nextPrime, .instanceMethod yX0_nextPrime, .selects RX0 yX0_nextPrime yX0_nextPrime, .initialized RX0, .code yX0_nextPrime cX0_nextPrime 2 (some .int), .fieldLink RX0 30 "StruckCounts$Board" "came" "I", .fieldLink RX0 26 "StruckCounts$Board" "bound" "I", .methodLink RX0 45 yX0_primeAt, .instanceMethod yX0_primeAt, .selects RX0 yX0_primeAt yX0_primeAt, .code yX0_primeAt cX0_primeAt 2 (some .int)] ++ wsX60 ++ wsX00 ++ (vx_atS RX6 59 "java/lang/IllegalStateException" ["java/lang/RuntimeException", "java/lang/Exception"]).filter goodWord)
def wsX6_strike_r1 : List Cond := [Cond.fieldLink RX6 26 "StruckCounts" "store" "LStruckCounts$Store;", Cond.fieldLink RX6 19 "StruckCounts" "board" "LStruckCounts$Board;", Cond.methodLink RX6 187 yX6_checkNextPrime, Cond.instanceMethod yX6_checkNextPrime, Cond.selects RX6 yX6_checkNextPrime yX6_checkNextPrime, Cond.initialized RX6, Cond.code yX6_checkNextPrime cX6_checkNextPrime 1 none, Cond.classLink RX6 55 "java/lang/IllegalStateException", Cond.initialized "java/lang/IllegalStateException", Cond.methodLink RX6 144 yX0_nextPrime, Cond.instanceMethod yX0_nextPrime, Cond.selects RX0 yX0_nextPrime yX0_nextPrime, Cond.initialized RX0, Cond.code yX0_nextPrime cX0_nextPrime 2 (some .int), Cond.fieldLink RX0 30 "StruckCounts$Board" "came" "I", Cond.fieldLink RX0 26 "StruckCounts$Board" "bound" "I", Cond.methodLink RX0 45 yX0_primeAt, Cond.instanceMethod yX0_primeAt, Cond.selects RX0 yX0_primeAt yX0_primeAt, Cond.code yX0_primeAt cX0_primeAt 2 (some .int), Cond.methodLink RX6 183 yX2_remember, Cond.instanceMethod yX2_remember, Cond.selects RX2 yX2_remember yX2_remember, Cond.initialized RX2]
def wsX6_strike_r2 : List Cond := [Cond.code yX2_remember cX2_remember 2 none, Cond.fieldLink RX2 26 "StruckCounts$Store" "newest" "I", Cond.fieldLink RX2 22 "StruckCounts$Store" "remembered" "I", Cond.methodLink RX2 33 Lib.Math.min.name, Cond.static Lib.Math.min.name, Cond.initialized "java/lang/Math", Cond.code Lib.Math.min.name Lib.Math.min.code 2 (some .int), Cond.methodLink RX2 29 yX2_put, Cond.instanceMethod yX2_put, Cond.selects RX2 yX2_put yX2_put, Cond.code yX2_put cX2_put 3 none, Cond.fieldLink RX2 11 "StruckCounts$Store" "bounds" "[I", Cond.fieldLink RX2 15 "StruckCounts$Store" "cames" "[I", Cond.fieldLink RX2 18 "StruckCounts$Store" "strucks" "[J", Cond.static yX6_outside, Cond.code yX6_outside cX6_outside 3 (some .boolean), Cond.methodLink RX6 141 yX0_countLeft, Cond.instanceMethod yX0_countLeft, Cond.selects RX0 yX0_countLeft yX0_countLeft, Cond.code yX0_countLeft cX0_countLeft 1 (some .int), Cond.methodLink RX0 52 yX0_tally, Cond.instanceMethod yX0_tally, Cond.selects RX0 yX0_tally yX0_tally, Cond.code yX0_tally cX0_tally 1 (some (.object "StruckCounts$Tally"))]
def wsX6_strike_r3 : List Cond := [Cond.fieldLink RX0 37 "StruckCounts$Board" "tallied" "I", Cond.fieldLink RX0 12 "StruckCounts$Board" "tally" "LStruckCounts$Tally;", Cond.methodLink RX0 40 yX3_begin, Cond.instanceMethod yX3_begin, Cond.selects RX3 yX3_begin yX3_begin, Cond.initialized RX3, Cond.code yX3_begin cX3_begin 4 none, Cond.fieldLink RX3 22 "StruckCounts$Tally" "bound" "I", Cond.fieldLink RX3 26 "StruckCounts$Tally" "size" "I", Cond.methodLink RX3 33 Lib.Math.max.name, Cond.static Lib.Math.max.name, Cond.code Lib.Math.max.name Lib.Math.max.code 2 (some .int), Cond.methodLink RX3 29 yX3_fill, Cond.instanceMethod yX3_fill, Cond.selects RX3 yX3_fill yX3_fill, Cond.code yX3_fill cX3_fill 4 none, Cond.fieldLink RX3 11 "StruckCounts$Tally" "values" "[I", Cond.fieldLink RX3 18 "StruckCounts$Tally" "sums" "[J", Cond.constantLong RX3 43 (2), Cond.fieldLink RX3 15 "StruckCounts$Tally" "rests" "[I", Cond.methodLink RX3 39 yX3_has, Cond.instanceMethod yX3_has, Cond.selects RX3 yX3_has yX3_has, Cond.code yX3_has cX3_has 2 (some .boolean)]
def wsX6_strike_r4 : List Cond := [Cond.methodLink RX0 41 yX0_hasStruck, Cond.instanceMethod yX0_hasStruck, Cond.selects RX0 yX0_hasStruck yX0_hasStruck, Cond.code yX0_hasStruck cX0_hasStruck 2 (some .boolean), Cond.fieldLink RX0 33 "StruckCounts$Board" "struck" "J", Cond.methodLink RX0 49 yX3_remove, Cond.instanceMethod yX3_remove, Cond.selects RX3 yX3_remove yX3_remove, Cond.code yX3_remove cX3_remove 5 none, Cond.methodLink RX3 52 yX3_valueAt, Cond.instanceMethod yX3_valueAt, Cond.selects RX3 yX3_valueAt yX3_valueAt, Cond.code yX3_valueAt cX3_valueAt 2 (some .int), Cond.methodLink RX3 56 yX3_placeOf, Cond.instanceMethod yX3_placeOf, Cond.selects RX3 yX3_placeOf yX3_placeOf, Cond.code yX3_placeOf cX3_placeOf 3 (some .int), Cond.methodLink RX0 55 yX3_countAt, Cond.instanceMethod yX3_countAt, Cond.selects RX3 yX3_countAt yX3_countAt, Cond.code yX3_countAt cX3_countAt 4 (some .int), Cond.methodLink RX3 45 yX3_restAt, Cond.instanceMethod yX3_restAt, Cond.selects RX3 yX3_restAt yX3_restAt]
def wsX6_strike_r5 : List Cond := [Cond.code yX3_restAt cX3_restAt 3 (some .int), Cond.methodLink RX6 115 yX0_letCome, Cond.instanceMethod yX0_letCome, Cond.selects RX0 yX0_letCome yX0_letCome, Cond.code yX0_letCome cX0_letCome 2 (some .boolean), Cond.methodLink RX0 62 yX0_nextPrime]
def wsX6_strike : List Cond := .code yX6_strike cX6_strike 2 (some .int) :: ((wsX6_strike_r1 ++ (wsX6_strike_r2 ++ (wsX6_strike_r3 ++ (wsX6_strike_r4 ++ wsX6_strike_r5)))) ++ wsX60 ++ wsX00 ++ wsX20 ++ wsX30 ++ (vx_atS RX6 59 "java/lang/IllegalStateException" ["java/lang/RuntimeException", "java/lang/Exception"]).filter goodWord)
def wsX6_spare_r1 : List Cond := [Cond.fieldLink RX6 26 "StruckCounts" "store" "LStruckCounts$Store;", Cond.fieldLink RX6 19 "StruckCounts" "board" "LStruckCounts$Board;", Cond.methodLink RX6 187 yX6_checkNextPrime, Cond.instanceMethod yX6_checkNextPrime, Cond.selects RX6 yX6_checkNextPrime yX6_checkNextPrime, Cond.initialized RX6, Cond.code yX6_checkNextPrime cX6_checkNextPrime 1 none, Cond.classLink RX6 55 "java/lang/IllegalStateException", Cond.initialized "java/lang/IllegalStateException", Cond.methodLink RX6 144 yX0_nextPrime, Cond.instanceMethod yX0_nextPrime, Cond.selects RX0 yX0_nextPrime yX0_nextPrime, Cond.initialized RX0, Cond.code yX0_nextPrime cX0_nextPrime 2 (some .int), Cond.fieldLink RX0 30 "StruckCounts$Board" "came" "I", Cond.fieldLink RX0 26 "StruckCounts$Board" "bound" "I", Cond.methodLink RX0 45 yX0_primeAt, Cond.instanceMethod yX0_primeAt, Cond.selects RX0 yX0_primeAt yX0_primeAt, Cond.code yX0_primeAt cX0_primeAt 2 (some .int), Cond.methodLink RX6 183 yX2_remember, Cond.instanceMethod yX2_remember, Cond.selects RX2 yX2_remember yX2_remember, Cond.initialized RX2]
def wsX6_spare_r2 : List Cond := [Cond.code yX2_remember cX2_remember 2 none, Cond.fieldLink RX2 26 "StruckCounts$Store" "newest" "I", Cond.fieldLink RX2 22 "StruckCounts$Store" "remembered" "I", Cond.methodLink RX2 33 Lib.Math.min.name, Cond.static Lib.Math.min.name, Cond.initialized "java/lang/Math", Cond.code Lib.Math.min.name Lib.Math.min.code 2 (some .int), Cond.methodLink RX2 29 yX2_put, Cond.instanceMethod yX2_put, Cond.selects RX2 yX2_put yX2_put, Cond.code yX2_put cX2_put 3 none, Cond.fieldLink RX2 11 "StruckCounts$Store" "bounds" "[I", Cond.fieldLink RX2 15 "StruckCounts$Store" "cames" "[I", Cond.fieldLink RX2 18 "StruckCounts$Store" "strucks" "[J", Cond.static yX6_outside, Cond.code yX6_outside cX6_outside 3 (some .boolean), Cond.methodLink RX6 115 yX0_letCome, Cond.instanceMethod yX0_letCome, Cond.selects RX0 yX0_letCome yX0_letCome, Cond.code yX0_letCome cX0_letCome 2 (some .boolean), Cond.fieldLink RX0 33 "StruckCounts$Board" "struck" "J", Cond.methodLink RX0 62 yX0_nextPrime]
def wsX6_spare : List Cond := .code yX6_spare cX6_spare 2 (some .int) :: ((wsX6_spare_r1 ++ wsX6_spare_r2) ++ wsX60 ++ wsX00 ++ wsX20 ++ (vx_atS RX6 59 "java/lang/IllegalStateException" ["java/lang/RuntimeException", "java/lang/Exception"]).filter goodWord)
def wsX6_strikeTo_r1 : List Cond := [Cond.classLink RX6 44 "java/lang/IllegalArgumentException", Cond.initialized "java/lang/IllegalArgumentException", Cond.constant RX6 180 (99999), Cond.fieldLink RX6 26 "StruckCounts" "store" "LStruckCounts$Store;", Cond.fieldLink RX6 19 "StruckCounts" "board" "LStruckCounts$Board;", Cond.methodLink RX6 40 yX6_outside, Cond.static yX6_outside, Cond.initialized RX6, Cond.code yX6_outside cX6_outside 3 (some .boolean), Cond.methodLink RX6 183 yX2_remember, Cond.instanceMethod yX2_remember, Cond.selects RX2 yX2_remember yX2_remember, Cond.initialized RX2, Cond.code yX2_remember cX2_remember 2 none, Cond.fieldLink RX2 26 "StruckCounts$Store" "newest" "I", Cond.fieldLink RX2 22 "StruckCounts$Store" "remembered" "I", Cond.methodLink RX2 33 Lib.Math.min.name, Cond.static Lib.Math.min.name, Cond.initialized "java/lang/Math", Cond.code Lib.Math.min.name Lib.Math.min.code 2 (some .int), Cond.methodLink RX2 29 yX2_put, Cond.instanceMethod yX2_put, Cond.selects RX2 yX2_put yX2_put, Cond.code yX2_put cX2_put 3 none]
def wsX6_strikeTo_r2 : List Cond := [Cond.fieldLink RX2 11 "StruckCounts$Store" "bounds" "[I", Cond.fieldLink RX2 15 "StruckCounts$Store" "cames" "[I", Cond.fieldLink RX2 18 "StruckCounts$Store" "strucks" "[J", Cond.methodLink RX6 192 yX0_letStrikeUpTo, Cond.instanceMethod yX0_letStrikeUpTo, Cond.selects RX0 yX0_letStrikeUpTo yX0_letStrikeUpTo, Cond.initialized RX0, Cond.code yX0_letStrikeUpTo cX0_letStrikeUpTo 3 (some .int), Cond.methodLink RX0 62 yX0_nextPrime, Cond.instanceMethod yX0_nextPrime, Cond.selects RX0 yX0_nextPrime yX0_nextPrime, Cond.code yX0_nextPrime cX0_nextPrime 2 (some .int), Cond.fieldLink RX0 30 "StruckCounts$Board" "came" "I", Cond.fieldLink RX0 26 "StruckCounts$Board" "bound" "I", Cond.methodLink RX0 45 yX0_primeAt, Cond.instanceMethod yX0_primeAt, Cond.selects RX0 yX0_primeAt yX0_primeAt, Cond.code yX0_primeAt cX0_primeAt 2 (some .int), Cond.methodLink RX0 66 yX0_letCome, Cond.instanceMethod yX0_letCome, Cond.selects RX0 yX0_letCome yX0_letCome, Cond.code yX0_letCome cX0_letCome 2 (some .boolean), Cond.fieldLink RX0 33 "StruckCounts$Board" "struck" "J"]
def wsX6_strikeTo : List Cond := .code yX6_strikeTo cX6_strikeTo 2 (some .int) :: ((wsX6_strikeTo_r1 ++ wsX6_strikeTo_r2) ++ wsX60 ++ wsX20 ++ wsX00 ++ (vx_atS RX6 48 "java/lang/IllegalArgumentException" ["java/lang/RuntimeException", "java/lang/Exception"]).filter goodWord)
def wsX6_again_r1 : List Cond := [Cond.fieldLink RX6 26 "StruckCounts" "store" "LStruckCounts$Store;", Cond.fieldLink RX6 19 "StruckCounts" "board" "LStruckCounts$Board;", Cond.methodLink RX6 183 yX2_remember, Cond.instanceMethod yX2_remember, Cond.selects RX2 yX2_remember yX2_remember, Cond.initialized RX2, Cond.code yX2_remember cX2_remember 2 none, Cond.fieldLink RX2 26 "StruckCounts$Store" "newest" "I", Cond.fieldLink RX2 22 "StruckCounts$Store" "remembered" "I", Cond.methodLink RX2 33 Lib.Math.min.name, Cond.static Lib.Math.min.name, Cond.initialized "java/lang/Math", Cond.code Lib.Math.min.name Lib.Math.min.code 2 (some .int), Cond.methodLink RX2 29 yX2_put, Cond.instanceMethod yX2_put, Cond.selects RX2 yX2_put yX2_put, Cond.code yX2_put cX2_put 3 none, Cond.fieldLink RX2 11 "StruckCounts$Store" "bounds" "[I", Cond.fieldLink RX2 15 "StruckCounts$Store" "cames" "[I", Cond.fieldLink RX2 18 "StruckCounts$Store" "strucks" "[J", Cond.static yX6_outside, Cond.initialized RX6, Cond.code yX6_outside cX6_outside 3 (some .boolean), Cond.methodLink RX6 73 yX0_begin]
def wsX6_again_r2 : List Cond := [Cond.instanceMethod yX0_begin, Cond.selects RX0 yX0_begin yX0_begin, Cond.initialized RX0, Cond.code yX0_begin cX0_begin 2 none, Cond.methodLink RX0 22 yX0_show, Cond.instanceMethod yX0_show, Cond.selects RX0 yX0_show yX0_show, Cond.code yX0_show cX0_show 5 none, Cond.fieldLink RX0 26 "StruckCounts$Board" "bound" "I", Cond.fieldLink RX0 30 "StruckCounts$Board" "came" "I", Cond.fieldLink RX0 33 "StruckCounts$Board" "struck" "J", Cond.fieldLink RX0 37 "StruckCounts$Board" "tallied" "I"]
def wsX6_again : List Cond := .code yX6_again cX6_again 2 (some .int) :: ((wsX6_again_r1 ++ wsX6_again_r2) ++ wsX60 ++ wsX00 ++ wsX20)
def wsX6_undo_r1 : List Cond := [Cond.classLink RX6 55 "java/lang/IllegalStateException", Cond.initialized "java/lang/IllegalStateException", Cond.fieldLink RX6 26 "StruckCounts" "store" "LStruckCounts$Store;", Cond.fieldLink RX6 19 "StruckCounts" "board" "LStruckCounts$Board;", Cond.methodLink RX6 200 yX2_takeBack, Cond.instanceMethod yX2_takeBack, Cond.selects RX2 yX2_takeBack yX2_takeBack, Cond.initialized RX2, Cond.code yX2_takeBack cX2_takeBack 2 none, Cond.fieldLink RX2 26 "StruckCounts$Store" "newest" "I", Cond.fieldLink RX2 22 "StruckCounts$Store" "remembered" "I", Cond.methodLink RX2 42 Lib.Math.max.name, Cond.static Lib.Math.max.name, Cond.initialized "java/lang/Math", Cond.code Lib.Math.max.name Lib.Math.max.code 2 (some .int), Cond.methodLink RX2 39 yX2_show, Cond.instanceMethod yX2_show, Cond.selects RX2 yX2_show yX2_show, Cond.code yX2_show cX2_show 3 none, Cond.fieldLink RX2 11 "StruckCounts$Store" "bounds" "[I", Cond.fieldLink RX2 15 "StruckCounts$Store" "cames" "[I", Cond.fieldLink RX2 18 "StruckCounts$Store" "strucks" "[J", Cond.static yX6_outside, Cond.initialized RX6]
def wsX6_undo_r2 : List Cond := [Cond.code yX6_outside cX6_outside 3 (some .boolean), Cond.methodLink RX2 61 yX0_show, Cond.instanceMethod yX0_show, Cond.selects RX0 yX0_show yX0_show, Cond.initialized RX0, Cond.code yX0_show cX0_show 5 none, Cond.fieldLink RX0 26 "StruckCounts$Board" "bound" "I", Cond.fieldLink RX0 30 "StruckCounts$Board" "came" "I", Cond.fieldLink RX0 33 "StruckCounts$Board" "struck" "J", Cond.fieldLink RX0 37 "StruckCounts$Board" "tallied" "I"]
def wsX6_undo : List Cond := .code yX6_undo cX6_undo 1 (some .int) :: ((wsX6_undo_r1 ++ wsX6_undo_r2) ++ wsX60 ++ wsX20 ++ wsX00 ++ (vx_atS RX6 59 "java/lang/IllegalStateException" ["java/lang/RuntimeException", "java/lang/Exception"]).filter goodWord)
def wsX6_wouldStrike_r1 : List Cond := [Cond.fieldLink RX6 19 "StruckCounts" "board" "LStruckCounts$Board;", Cond.methodLink RX6 153 yX6_checkQuotient, Cond.instanceMethod yX6_checkQuotient, Cond.selects RX6 yX6_checkQuotient yX6_checkQuotient, Cond.initialized RX6, Cond.code yX6_checkQuotient cX6_checkQuotient 2 none, Cond.classLink RX6 279 "java/lang/IndexOutOfBoundsException", Cond.initialized "java/lang/IndexOutOfBoundsException", Cond.methodLink RX6 119 yX0_tally, Cond.instanceMethod yX0_tally, Cond.selects RX0 yX0_tally yX0_tally, Cond.initialized RX0, Cond.code yX0_tally cX0_tally 1 (some (.object "StruckCounts$Tally")), Cond.fieldLink RX0 37 "StruckCounts$Board" "tallied" "I", Cond.fieldLink RX0 12 "StruckCounts$Board" "tally" "LStruckCounts$Tally;", Cond.fieldLink RX0 26 "StruckCounts$Board" "bound" "I", Cond.fieldLink RX0 30 "StruckCounts$Board" "came" "I", Cond.methodLink RX0 40 yX3_begin, Cond.instanceMethod yX3_begin, Cond.selects RX3 yX3_begin yX3_begin, Cond.initialized RX3, Cond.code yX3_begin cX3_begin 4 none, Cond.fieldLink RX3 22 "StruckCounts$Tally" "bound" "I", Cond.fieldLink RX3 26 "StruckCounts$Tally" "size" "I"]
def wsX6_wouldStrike_r2 : List Cond := [Cond.methodLink RX3 33 Lib.Math.max.name, Cond.static Lib.Math.max.name, Cond.initialized "java/lang/Math", Cond.code Lib.Math.max.name Lib.Math.max.code 2 (some .int), Cond.methodLink RX3 29 yX3_fill, Cond.instanceMethod yX3_fill, Cond.selects RX3 yX3_fill yX3_fill, Cond.code yX3_fill cX3_fill 4 none, Cond.fieldLink RX3 11 "StruckCounts$Tally" "values" "[I", Cond.fieldLink RX3 18 "StruckCounts$Tally" "sums" "[J", Cond.constantLong RX3 43 (2), Cond.fieldLink RX3 15 "StruckCounts$Tally" "rests" "[I", Cond.methodLink RX3 39 yX3_has, Cond.instanceMethod yX3_has, Cond.selects RX3 yX3_has yX3_has, Cond.code yX3_has cX3_has 2 (some .boolean), Cond.methodLink RX0 41 yX0_hasStruck, Cond.instanceMethod yX0_hasStruck, Cond.selects RX0 yX0_hasStruck yX0_hasStruck, Cond.code yX0_hasStruck cX0_hasStruck 2 (some .boolean), Cond.fieldLink RX0 33 "StruckCounts$Board" "struck" "J", Cond.methodLink RX0 45 yX0_primeAt, Cond.instanceMethod yX0_primeAt, Cond.selects RX0 yX0_primeAt yX0_primeAt]
def wsX6_wouldStrike_r3 : List Cond := [Cond.code yX0_primeAt cX0_primeAt 2 (some .int), Cond.methodLink RX0 49 yX3_remove, Cond.instanceMethod yX3_remove, Cond.selects RX3 yX3_remove yX3_remove, Cond.code yX3_remove cX3_remove 5 none, Cond.methodLink RX3 52 yX3_valueAt, Cond.instanceMethod yX3_valueAt, Cond.selects RX3 yX3_valueAt yX3_valueAt, Cond.code yX3_valueAt cX3_valueAt 2 (some .int), Cond.methodLink RX3 56 yX3_placeOf, Cond.instanceMethod yX3_placeOf, Cond.selects RX3 yX3_placeOf yX3_placeOf, Cond.code yX3_placeOf cX3_placeOf 3 (some .int), Cond.methodLink RX6 144 yX0_nextPrime, Cond.instanceMethod yX0_nextPrime, Cond.selects RX0 yX0_nextPrime yX0_nextPrime, Cond.code yX0_nextPrime cX0_nextPrime 2 (some .int), Cond.methodLink RX6 203 yX3_multiplesAt, Cond.instanceMethod yX3_multiplesAt, Cond.selects RX3 yX3_multiplesAt yX3_multiplesAt, Cond.code yX3_multiplesAt cX3_multiplesAt 3 (some .int), Cond.methodLink RX3 59 yX3_countAt, Cond.instanceMethod yX3_countAt, Cond.selects RX3 yX3_countAt yX3_countAt]
def wsX6_wouldStrike_r4 : List Cond := [Cond.code yX3_countAt cX3_countAt 4 (some .int), Cond.methodLink RX3 45 yX3_restAt, Cond.instanceMethod yX3_restAt, Cond.selects RX3 yX3_restAt yX3_restAt, Cond.code yX3_restAt cX3_restAt 3 (some .int), Cond.static yX6_outside, Cond.code yX6_outside cX6_outside 3 (some .boolean)]
def wsX6_wouldStrike : List Cond := .code yX6_wouldStrike cX6_wouldStrike 3 (some .int) :: ((wsX6_wouldStrike_r1 ++ (wsX6_wouldStrike_r2 ++ (wsX6_wouldStrike_r3 ++ wsX6_wouldStrike_r4))) ++ wsX60 ++ wsX30 ++ wsX00 ++ (vx_atS RX6 283 "java/lang/IndexOutOfBoundsException" ["java/lang/RuntimeException", "java/lang/Exception"]).filter goodWord)
def wsJ9_max_7cf53 : List Cond := .code yJ9_max_7cf53 cJ9_max_7cf53 2 (some .int) :: ([])
def wsJ9_min_7cf53 : List Cond := .code yJ9_min_7cf53 cJ9_min_7cf53 2 (some .int) :: ([])
def wsL_cell : List Cond := .code yL_cell cL_cell 2 (some .int) :: ([.constant RL 7 (41843), .constant RL 8 (2147483647)])
def wsL_bound_r1 : List Cond := [Cond.classLink RL 15 "java/lang/IllegalArgumentException", Cond.constant RL 17 (-2000001), Cond.methodLink RL 9 yX6_bound, Cond.instanceMethod yX6_bound, Cond.selects RX6 yX6_bound yX6_bound, Cond.initialized RX6, Cond.code yX6_bound cX6_bound 3 (some .int), Cond.classLink RX6 44 "java/lang/IllegalArgumentException", Cond.initialized "java/lang/IllegalArgumentException", Cond.constant RX6 180 (99999), Cond.fieldLink RX6 26 "StruckCounts" "store" "LStruckCounts$Store;", Cond.fieldLink RX6 19 "StruckCounts" "board" "LStruckCounts$Board;", Cond.methodLink RX6 40 yX6_outside, Cond.static yX6_outside, Cond.code yX6_outside cX6_outside 3 (some .boolean), Cond.methodLink RX6 183 yX2_remember, Cond.instanceMethod yX2_remember, Cond.selects RX2 yX2_remember yX2_remember, Cond.initialized RX2, Cond.code yX2_remember cX2_remember 2 none, Cond.fieldLink RX2 26 "StruckCounts$Store" "newest" "I", Cond.fieldLink RX2 22 "StruckCounts$Store" "remembered" "I", Cond.methodLink RX2 33 Lib.Math.min.name, Cond.static Lib.Math.min.name]
def wsL_bound_r2 : List Cond := [Cond.initialized "java/lang/Math", Cond.code Lib.Math.min.name Lib.Math.min.code 2 (some .int), Cond.methodLink RX2 29 yX2_put, Cond.instanceMethod yX2_put, Cond.selects RX2 yX2_put yX2_put, Cond.code yX2_put cX2_put 3 none, Cond.fieldLink RX2 11 "StruckCounts$Store" "bounds" "[I", Cond.fieldLink RX2 15 "StruckCounts$Store" "cames" "[I", Cond.fieldLink RX2 18 "StruckCounts$Store" "strucks" "[J", Cond.methodLink RX6 73 yX0_begin, Cond.instanceMethod yX0_begin, Cond.selects RX0 yX0_begin yX0_begin, Cond.initialized RX0, Cond.code yX0_begin cX0_begin 2 none, Cond.methodLink RX0 22 yX0_show, Cond.instanceMethod yX0_show, Cond.selects RX0 yX0_show yX0_show, Cond.code yX0_show cX0_show 5 none, Cond.fieldLink RX0 26 "StruckCounts$Board" "bound" "I", Cond.fieldLink RX0 30 "StruckCounts$Board" "came" "I", Cond.fieldLink RX0 33 "StruckCounts$Board" "struck" "J", Cond.fieldLink RX0 37 "StruckCounts$Board" "tallied" "I"]
def wsL_bound : List Cond := .codeWith yL_bound cL_bound 3 (some .int) [(0, 5, 6, 15)] :: ((wsL_bound_r1 ++ wsL_bound_r2) ++ wsX60 ++ wsX00 ++ wsX20 ++ (vx_atS RX6 48 "java/lang/IllegalArgumentException" ["java/lang/RuntimeException", "java/lang/Exception"]).filter goodWord)
def wsL_strike_r1 : List Cond := [Cond.classLink RL 22 "java/lang/IllegalStateException", Cond.constant RL 17 (-2000001), Cond.methodLink RL 18 yX6_strike, Cond.instanceMethod yX6_strike, Cond.selects RX6 yX6_strike yX6_strike, Cond.initialized RX6, Cond.code yX6_strike cX6_strike 2 (some .int), Cond.fieldLink RX6 26 "StruckCounts" "store" "LStruckCounts$Store;", Cond.fieldLink RX6 19 "StruckCounts" "board" "LStruckCounts$Board;", Cond.methodLink RX6 187 yX6_checkNextPrime, Cond.instanceMethod yX6_checkNextPrime, Cond.selects RX6 yX6_checkNextPrime yX6_checkNextPrime, Cond.code yX6_checkNextPrime cX6_checkNextPrime 1 none, Cond.classLink RX6 55 "java/lang/IllegalStateException", Cond.initialized "java/lang/IllegalStateException", Cond.methodLink RX6 144 yX0_nextPrime, Cond.instanceMethod yX0_nextPrime, Cond.selects RX0 yX0_nextPrime yX0_nextPrime, Cond.initialized RX0, Cond.code yX0_nextPrime cX0_nextPrime 2 (some .int), Cond.fieldLink RX0 30 "StruckCounts$Board" "came" "I", Cond.fieldLink RX0 26 "StruckCounts$Board" "bound" "I", Cond.methodLink RX0 45 yX0_primeAt, Cond.instanceMethod yX0_primeAt]
def wsL_strike_r2 : List Cond := [Cond.selects RX0 yX0_primeAt yX0_primeAt, Cond.code yX0_primeAt cX0_primeAt 2 (some .int), Cond.methodLink RX6 183 yX2_remember, Cond.instanceMethod yX2_remember, Cond.selects RX2 yX2_remember yX2_remember, Cond.initialized RX2, Cond.code yX2_remember cX2_remember 2 none, Cond.fieldLink RX2 26 "StruckCounts$Store" "newest" "I", Cond.fieldLink RX2 22 "StruckCounts$Store" "remembered" "I", Cond.methodLink RX2 33 Lib.Math.min.name, Cond.static Lib.Math.min.name, Cond.initialized "java/lang/Math", Cond.code Lib.Math.min.name Lib.Math.min.code 2 (some .int), Cond.methodLink RX2 29 yX2_put, Cond.instanceMethod yX2_put, Cond.selects RX2 yX2_put yX2_put, Cond.code yX2_put cX2_put 3 none, Cond.fieldLink RX2 11 "StruckCounts$Store" "bounds" "[I", Cond.fieldLink RX2 15 "StruckCounts$Store" "cames" "[I", Cond.fieldLink RX2 18 "StruckCounts$Store" "strucks" "[J", Cond.static yX6_outside, Cond.code yX6_outside cX6_outside 3 (some .boolean), Cond.methodLink RX6 141 yX0_countLeft, Cond.instanceMethod yX0_countLeft]
def wsL_strike_r3 : List Cond := [Cond.selects RX0 yX0_countLeft yX0_countLeft, Cond.code yX0_countLeft cX0_countLeft 1 (some .int), Cond.methodLink RX0 52 yX0_tally, Cond.instanceMethod yX0_tally, Cond.selects RX0 yX0_tally yX0_tally, Cond.code yX0_tally cX0_tally 1 (some (.object "StruckCounts$Tally")), Cond.fieldLink RX0 37 "StruckCounts$Board" "tallied" "I", Cond.fieldLink RX0 12 "StruckCounts$Board" "tally" "LStruckCounts$Tally;", Cond.methodLink RX0 40 yX3_begin, Cond.instanceMethod yX3_begin, Cond.selects RX3 yX3_begin yX3_begin, Cond.initialized RX3, Cond.code yX3_begin cX3_begin 4 none, Cond.fieldLink RX3 22 "StruckCounts$Tally" "bound" "I", Cond.fieldLink RX3 26 "StruckCounts$Tally" "size" "I", Cond.methodLink RX3 33 Lib.Math.max.name, Cond.static Lib.Math.max.name, Cond.code Lib.Math.max.name Lib.Math.max.code 2 (some .int), Cond.methodLink RX3 29 yX3_fill, Cond.instanceMethod yX3_fill, Cond.selects RX3 yX3_fill yX3_fill, Cond.code yX3_fill cX3_fill 4 none, Cond.fieldLink RX3 11 "StruckCounts$Tally" "values" "[I", Cond.fieldLink RX3 18 "StruckCounts$Tally" "sums" "[J"]
def wsL_strike_r4 : List Cond := [Cond.constantLong RX3 43 (2), Cond.fieldLink RX3 15 "StruckCounts$Tally" "rests" "[I", Cond.methodLink RX3 39 yX3_has, Cond.instanceMethod yX3_has, Cond.selects RX3 yX3_has yX3_has, Cond.code yX3_has cX3_has 2 (some .boolean), Cond.methodLink RX0 41 yX0_hasStruck, Cond.instanceMethod yX0_hasStruck, Cond.selects RX0 yX0_hasStruck yX0_hasStruck, Cond.code yX0_hasStruck cX0_hasStruck 2 (some .boolean), Cond.fieldLink RX0 33 "StruckCounts$Board" "struck" "J", Cond.methodLink RX0 49 yX3_remove, Cond.instanceMethod yX3_remove, Cond.selects RX3 yX3_remove yX3_remove, Cond.code yX3_remove cX3_remove 5 none, Cond.methodLink RX3 52 yX3_valueAt, Cond.instanceMethod yX3_valueAt, Cond.selects RX3 yX3_valueAt yX3_valueAt, Cond.code yX3_valueAt cX3_valueAt 2 (some .int), Cond.methodLink RX3 56 yX3_placeOf, Cond.instanceMethod yX3_placeOf, Cond.selects RX3 yX3_placeOf yX3_placeOf, Cond.code yX3_placeOf cX3_placeOf 3 (some .int), Cond.methodLink RX0 55 yX3_countAt]
def wsL_strike_r5 : List Cond := [Cond.instanceMethod yX3_countAt, Cond.selects RX3 yX3_countAt yX3_countAt, Cond.code yX3_countAt cX3_countAt 4 (some .int), Cond.methodLink RX3 45 yX3_restAt, Cond.instanceMethod yX3_restAt, Cond.selects RX3 yX3_restAt yX3_restAt, Cond.code yX3_restAt cX3_restAt 3 (some .int), Cond.methodLink RX6 115 yX0_letCome, Cond.instanceMethod yX0_letCome, Cond.selects RX0 yX0_letCome yX0_letCome, Cond.code yX0_letCome cX0_letCome 2 (some .boolean), Cond.methodLink RX0 62 yX0_nextPrime]
def wsL_strike : List Cond := .codeWith yL_strike cL_strike 2 (some .int) [(0, 4, 5, 22)] :: ((wsL_strike_r1 ++ (wsL_strike_r2 ++ (wsL_strike_r3 ++ (wsL_strike_r4 ++ wsL_strike_r5)))) ++ wsX60 ++ wsX00 ++ wsX20 ++ wsX30 ++ (vx_atS RX6 59 "java/lang/IllegalStateException" ["java/lang/RuntimeException", "java/lang/Exception"]).filter goodWord)
def wsL_spare_r1 : List Cond := [Cond.classLink RL 22 "java/lang/IllegalStateException", Cond.constant RL 17 (-2000001), Cond.methodLink RL 24 yX6_spare, Cond.instanceMethod yX6_spare, Cond.selects RX6 yX6_spare yX6_spare, Cond.initialized RX6, Cond.code yX6_spare cX6_spare 2 (some .int), Cond.fieldLink RX6 26 "StruckCounts" "store" "LStruckCounts$Store;", Cond.fieldLink RX6 19 "StruckCounts" "board" "LStruckCounts$Board;", Cond.methodLink RX6 187 yX6_checkNextPrime, Cond.instanceMethod yX6_checkNextPrime, Cond.selects RX6 yX6_checkNextPrime yX6_checkNextPrime, Cond.code yX6_checkNextPrime cX6_checkNextPrime 1 none, Cond.classLink RX6 55 "java/lang/IllegalStateException", Cond.initialized "java/lang/IllegalStateException", Cond.methodLink RX6 144 yX0_nextPrime, Cond.instanceMethod yX0_nextPrime, Cond.selects RX0 yX0_nextPrime yX0_nextPrime, Cond.initialized RX0, Cond.code yX0_nextPrime cX0_nextPrime 2 (some .int), Cond.fieldLink RX0 30 "StruckCounts$Board" "came" "I", Cond.fieldLink RX0 26 "StruckCounts$Board" "bound" "I", Cond.methodLink RX0 45 yX0_primeAt, Cond.instanceMethod yX0_primeAt]
def wsL_spare_r2 : List Cond := [Cond.selects RX0 yX0_primeAt yX0_primeAt, Cond.code yX0_primeAt cX0_primeAt 2 (some .int), Cond.methodLink RX6 183 yX2_remember, Cond.instanceMethod yX2_remember, Cond.selects RX2 yX2_remember yX2_remember, Cond.initialized RX2, Cond.code yX2_remember cX2_remember 2 none, Cond.fieldLink RX2 26 "StruckCounts$Store" "newest" "I", Cond.fieldLink RX2 22 "StruckCounts$Store" "remembered" "I", Cond.methodLink RX2 33 Lib.Math.min.name, Cond.static Lib.Math.min.name, Cond.initialized "java/lang/Math", Cond.code Lib.Math.min.name Lib.Math.min.code 2 (some .int), Cond.methodLink RX2 29 yX2_put, Cond.instanceMethod yX2_put, Cond.selects RX2 yX2_put yX2_put, Cond.code yX2_put cX2_put 3 none, Cond.fieldLink RX2 11 "StruckCounts$Store" "bounds" "[I", Cond.fieldLink RX2 15 "StruckCounts$Store" "cames" "[I", Cond.fieldLink RX2 18 "StruckCounts$Store" "strucks" "[J", Cond.static yX6_outside, Cond.code yX6_outside cX6_outside 3 (some .boolean), Cond.methodLink RX6 115 yX0_letCome, Cond.instanceMethod yX0_letCome]
def wsL_spare_r3 : List Cond := [Cond.selects RX0 yX0_letCome yX0_letCome, Cond.code yX0_letCome cX0_letCome 2 (some .boolean), Cond.fieldLink RX0 33 "StruckCounts$Board" "struck" "J", Cond.methodLink RX0 62 yX0_nextPrime]
def wsL_spare : List Cond := .codeWith yL_spare cL_spare 2 (some .int) [(0, 4, 5, 22)] :: ((wsL_spare_r1 ++ (wsL_spare_r2 ++ wsL_spare_r3)) ++ wsX60 ++ wsX00 ++ wsX20 ++ (vx_atS RX6 59 "java/lang/IllegalStateException" ["java/lang/RuntimeException", "java/lang/Exception"]).filter goodWord)
def wsL_strikeTo_r1 : List Cond := [Cond.classLink RL 15 "java/lang/IllegalArgumentException", Cond.constant RL 17 (-2000001), Cond.methodLink RL 27 yX6_strikeTo, Cond.instanceMethod yX6_strikeTo, Cond.selects RX6 yX6_strikeTo yX6_strikeTo, Cond.initialized RX6, Cond.code yX6_strikeTo cX6_strikeTo 2 (some .int), Cond.classLink RX6 44 "java/lang/IllegalArgumentException", Cond.initialized "java/lang/IllegalArgumentException", Cond.constant RX6 180 (99999), Cond.fieldLink RX6 26 "StruckCounts" "store" "LStruckCounts$Store;", Cond.fieldLink RX6 19 "StruckCounts" "board" "LStruckCounts$Board;", Cond.methodLink RX6 40 yX6_outside, Cond.static yX6_outside, Cond.code yX6_outside cX6_outside 3 (some .boolean), Cond.methodLink RX6 183 yX2_remember, Cond.instanceMethod yX2_remember, Cond.selects RX2 yX2_remember yX2_remember, Cond.initialized RX2, Cond.code yX2_remember cX2_remember 2 none, Cond.fieldLink RX2 26 "StruckCounts$Store" "newest" "I", Cond.fieldLink RX2 22 "StruckCounts$Store" "remembered" "I", Cond.methodLink RX2 33 Lib.Math.min.name, Cond.static Lib.Math.min.name]
def wsL_strikeTo_r2 : List Cond := [Cond.initialized "java/lang/Math", Cond.code Lib.Math.min.name Lib.Math.min.code 2 (some .int), Cond.methodLink RX2 29 yX2_put, Cond.instanceMethod yX2_put, Cond.selects RX2 yX2_put yX2_put, Cond.code yX2_put cX2_put 3 none, Cond.fieldLink RX2 11 "StruckCounts$Store" "bounds" "[I", Cond.fieldLink RX2 15 "StruckCounts$Store" "cames" "[I", Cond.fieldLink RX2 18 "StruckCounts$Store" "strucks" "[J", Cond.methodLink RX6 192 yX0_letStrikeUpTo, Cond.instanceMethod yX0_letStrikeUpTo, Cond.selects RX0 yX0_letStrikeUpTo yX0_letStrikeUpTo, Cond.initialized RX0, Cond.code yX0_letStrikeUpTo cX0_letStrikeUpTo 3 (some .int), Cond.methodLink RX0 62 yX0_nextPrime, Cond.instanceMethod yX0_nextPrime, Cond.selects RX0 yX0_nextPrime yX0_nextPrime, Cond.code yX0_nextPrime cX0_nextPrime 2 (some .int), Cond.fieldLink RX0 30 "StruckCounts$Board" "came" "I", Cond.fieldLink RX0 26 "StruckCounts$Board" "bound" "I", Cond.methodLink RX0 45 yX0_primeAt, Cond.instanceMethod yX0_primeAt, Cond.selects RX0 yX0_primeAt yX0_primeAt, Cond.code yX0_primeAt cX0_primeAt 2 (some .int)]
def wsL_strikeTo_r3 : List Cond := [Cond.methodLink RX0 66 yX0_letCome, Cond.instanceMethod yX0_letCome, Cond.selects RX0 yX0_letCome yX0_letCome, Cond.code yX0_letCome cX0_letCome 2 (some .boolean), Cond.fieldLink RX0 33 "StruckCounts$Board" "struck" "J"]
def wsL_strikeTo : List Cond := .codeWith yL_strikeTo cL_strikeTo 3 (some .int) [(0, 5, 6, 15)] :: ((wsL_strikeTo_r1 ++ (wsL_strikeTo_r2 ++ wsL_strikeTo_r3)) ++ wsX60 ++ wsX20 ++ wsX00 ++ (vx_atS RX6 48 "java/lang/IllegalArgumentException" ["java/lang/RuntimeException", "java/lang/Exception"]).filter goodWord)
def wsL_undo_r1 : List Cond := [Cond.classLink RL 22 "java/lang/IllegalStateException", Cond.constant RL 17 (-2000001), Cond.methodLink RL 30 yX6_undo, Cond.instanceMethod yX6_undo, Cond.selects RX6 yX6_undo yX6_undo, Cond.initialized RX6, Cond.code yX6_undo cX6_undo 1 (some .int), Cond.classLink RX6 55 "java/lang/IllegalStateException", Cond.initialized "java/lang/IllegalStateException", Cond.fieldLink RX6 26 "StruckCounts" "store" "LStruckCounts$Store;", Cond.fieldLink RX6 19 "StruckCounts" "board" "LStruckCounts$Board;", Cond.methodLink RX6 200 yX2_takeBack, Cond.instanceMethod yX2_takeBack, Cond.selects RX2 yX2_takeBack yX2_takeBack, Cond.initialized RX2, Cond.code yX2_takeBack cX2_takeBack 2 none, Cond.fieldLink RX2 26 "StruckCounts$Store" "newest" "I", Cond.fieldLink RX2 22 "StruckCounts$Store" "remembered" "I", Cond.methodLink RX2 42 Lib.Math.max.name, Cond.static Lib.Math.max.name, Cond.initialized "java/lang/Math", Cond.code Lib.Math.max.name Lib.Math.max.code 2 (some .int), Cond.methodLink RX2 39 yX2_show, Cond.instanceMethod yX2_show]
def wsL_undo_r2 : List Cond := [Cond.selects RX2 yX2_show yX2_show, Cond.code yX2_show cX2_show 3 none, Cond.fieldLink RX2 11 "StruckCounts$Store" "bounds" "[I", Cond.fieldLink RX2 15 "StruckCounts$Store" "cames" "[I", Cond.fieldLink RX2 18 "StruckCounts$Store" "strucks" "[J", Cond.static yX6_outside, Cond.code yX6_outside cX6_outside 3 (some .boolean), Cond.methodLink RX2 61 yX0_show, Cond.instanceMethod yX0_show, Cond.selects RX0 yX0_show yX0_show, Cond.initialized RX0, Cond.code yX0_show cX0_show 5 none, Cond.fieldLink RX0 26 "StruckCounts$Board" "bound" "I", Cond.fieldLink RX0 30 "StruckCounts$Board" "came" "I", Cond.fieldLink RX0 33 "StruckCounts$Board" "struck" "J", Cond.fieldLink RX0 37 "StruckCounts$Board" "tallied" "I"]
def wsL_undo : List Cond := .codeWith yL_undo cL_undo 2 (some .int) [(0, 4, 5, 22)] :: ((wsL_undo_r1 ++ wsL_undo_r2) ++ wsX60 ++ wsX20 ++ wsX00 ++ (vx_atS RX6 59 "java/lang/IllegalStateException" ["java/lang/RuntimeException", "java/lang/Exception"]).filter goodWord)
def wsL_about_r1 : List Cond := [Cond.classLink RL 15 "java/lang/IllegalArgumentException", Cond.constant RL 17 (-2000001), Cond.methodLink RL 33 yX6_about, Cond.instanceMethod yX6_about, Cond.selects RX6 yX6_about yX6_about, Cond.initialized RX6, Cond.code yX6_about cX6_about 2 (some .int), Cond.classLink RX6 44 "java/lang/IllegalArgumentException", Cond.initialized "java/lang/IllegalArgumentException", Cond.fieldLink RX6 19 "StruckCounts" "board" "LStruckCounts$Board;", Cond.methodLink RX6 119 yX0_tally, Cond.instanceMethod yX0_tally, Cond.selects RX0 yX0_tally yX0_tally, Cond.initialized RX0, Cond.code yX0_tally cX0_tally 1 (some (.object "StruckCounts$Tally")), Cond.fieldLink RX0 37 "StruckCounts$Board" "tallied" "I", Cond.fieldLink RX0 12 "StruckCounts$Board" "tally" "LStruckCounts$Tally;", Cond.fieldLink RX0 26 "StruckCounts$Board" "bound" "I", Cond.fieldLink RX0 30 "StruckCounts$Board" "came" "I", Cond.methodLink RX0 40 yX3_begin, Cond.instanceMethod yX3_begin, Cond.selects RX3 yX3_begin yX3_begin, Cond.initialized RX3, Cond.code yX3_begin cX3_begin 4 none]
def wsL_about_r2 : List Cond := [Cond.fieldLink RX3 22 "StruckCounts$Tally" "bound" "I", Cond.fieldLink RX3 26 "StruckCounts$Tally" "size" "I", Cond.methodLink RX3 33 Lib.Math.max.name, Cond.static Lib.Math.max.name, Cond.initialized "java/lang/Math", Cond.code Lib.Math.max.name Lib.Math.max.code 2 (some .int), Cond.methodLink RX3 29 yX3_fill, Cond.instanceMethod yX3_fill, Cond.selects RX3 yX3_fill yX3_fill, Cond.code yX3_fill cX3_fill 4 none, Cond.fieldLink RX3 11 "StruckCounts$Tally" "values" "[I", Cond.fieldLink RX3 18 "StruckCounts$Tally" "sums" "[J", Cond.constantLong RX3 43 (2), Cond.fieldLink RX3 15 "StruckCounts$Tally" "rests" "[I", Cond.methodLink RX3 39 yX3_has, Cond.instanceMethod yX3_has, Cond.selects RX3 yX3_has yX3_has, Cond.code yX3_has cX3_has 2 (some .boolean), Cond.methodLink RX0 41 yX0_hasStruck, Cond.instanceMethod yX0_hasStruck, Cond.selects RX0 yX0_hasStruck yX0_hasStruck, Cond.code yX0_hasStruck cX0_hasStruck 2 (some .boolean), Cond.fieldLink RX0 33 "StruckCounts$Board" "struck" "J", Cond.methodLink RX0 45 yX0_primeAt]
def wsL_about_r3 : List Cond := [Cond.instanceMethod yX0_primeAt, Cond.selects RX0 yX0_primeAt yX0_primeAt, Cond.code yX0_primeAt cX0_primeAt 2 (some .int), Cond.methodLink RX0 49 yX3_remove, Cond.instanceMethod yX3_remove, Cond.selects RX3 yX3_remove yX3_remove, Cond.code yX3_remove cX3_remove 5 none, Cond.methodLink RX3 52 yX3_valueAt, Cond.instanceMethod yX3_valueAt, Cond.selects RX3 yX3_valueAt yX3_valueAt, Cond.code yX3_valueAt cX3_valueAt 2 (some .int), Cond.methodLink RX3 56 yX3_placeOf, Cond.instanceMethod yX3_placeOf, Cond.selects RX3 yX3_placeOf yX3_placeOf, Cond.code yX3_placeOf cX3_placeOf 3 (some .int), Cond.methodLink RX6 132 yJ13_bitCount_95d88, Cond.static yJ13_bitCount_95d88, Cond.initialized RJ13, Cond.code yJ13_bitCount_95d88 cJ13_bitCount_95d88 2 (some .int), Cond.constantLong RJ13 314 (6148914691236517205), Cond.constantLong RJ13 316 (3689348814741910323), Cond.constantLong RJ13 318 (1085102592571150095), Cond.methodLink RX6 141 yX0_countLeft, Cond.instanceMethod yX0_countLeft]
def wsL_about_r4 : List Cond := [Cond.selects RX0 yX0_countLeft yX0_countLeft, Cond.code yX0_countLeft cX0_countLeft 1 (some .int), Cond.methodLink RX0 52 yX0_tally, Cond.methodLink RX0 55 yX3_countAt, Cond.instanceMethod yX3_countAt, Cond.selects RX3 yX3_countAt yX3_countAt, Cond.code yX3_countAt cX3_countAt 4 (some .int), Cond.methodLink RX3 45 yX3_restAt, Cond.instanceMethod yX3_restAt, Cond.selects RX3 yX3_restAt yX3_restAt, Cond.code yX3_restAt cX3_restAt 3 (some .int), Cond.static yX6_outside, Cond.code yX6_outside cX6_outside 3 (some .boolean), Cond.methodLink RX6 144 yX0_nextPrime, Cond.instanceMethod yX0_nextPrime, Cond.selects RX0 yX0_nextPrime yX0_nextPrime, Cond.code yX0_nextPrime cX0_nextPrime 2 (some .int), Cond.methodLink RX6 147 yX0_primeAt]
def wsL_about : List Cond := .codeWith yL_about cL_about 3 (some .int) [(0, 5, 6, 15)] :: ((wsL_about_r1 ++ (wsL_about_r2 ++ (wsL_about_r3 ++ wsL_about_r4))) ++ wsX60 ++ wsX00 ++ wsX30 ++ (vx_atS RX6 48 "java/lang/IllegalArgumentException" ["java/lang/RuntimeException", "java/lang/Exception"]).filter goodWord)
def wsL_quotient_r1 : List Cond := [Cond.classLink RL 39 "java/lang/IndexOutOfBoundsException", Cond.constant RL 17 (-2000001), Cond.methodLink RL 36 yX6_quotient, Cond.instanceMethod yX6_quotient, Cond.selects RX6 yX6_quotient yX6_quotient, Cond.initialized RX6, Cond.code yX6_quotient cX6_quotient 2 (some .int), Cond.fieldLink RX6 19 "StruckCounts" "board" "LStruckCounts$Board;", Cond.methodLink RX6 153 yX6_checkQuotient, Cond.instanceMethod yX6_checkQuotient, Cond.selects RX6 yX6_checkQuotient yX6_checkQuotient, Cond.code yX6_checkQuotient cX6_checkQuotient 2 none, Cond.classLink RX6 279 "java/lang/IndexOutOfBoundsException", Cond.initialized "java/lang/IndexOutOfBoundsException", Cond.methodLink RX6 119 yX0_tally, Cond.instanceMethod yX0_tally, Cond.selects RX0 yX0_tally yX0_tally, Cond.initialized RX0, Cond.code yX0_tally cX0_tally 1 (some (.object "StruckCounts$Tally")), Cond.fieldLink RX0 37 "StruckCounts$Board" "tallied" "I", Cond.fieldLink RX0 12 "StruckCounts$Board" "tally" "LStruckCounts$Tally;", Cond.fieldLink RX0 26 "StruckCounts$Board" "bound" "I", Cond.fieldLink RX0 30 "StruckCounts$Board" "came" "I", Cond.methodLink RX0 40 yX3_begin]
def wsL_quotient_r2 : List Cond := [Cond.instanceMethod yX3_begin, Cond.selects RX3 yX3_begin yX3_begin, Cond.initialized RX3, Cond.code yX3_begin cX3_begin 4 none, Cond.fieldLink RX3 22 "StruckCounts$Tally" "bound" "I", Cond.fieldLink RX3 26 "StruckCounts$Tally" "size" "I", Cond.methodLink RX3 33 Lib.Math.max.name, Cond.static Lib.Math.max.name, Cond.initialized "java/lang/Math", Cond.code Lib.Math.max.name Lib.Math.max.code 2 (some .int), Cond.methodLink RX3 29 yX3_fill, Cond.instanceMethod yX3_fill, Cond.selects RX3 yX3_fill yX3_fill, Cond.code yX3_fill cX3_fill 4 none, Cond.fieldLink RX3 11 "StruckCounts$Tally" "values" "[I", Cond.fieldLink RX3 18 "StruckCounts$Tally" "sums" "[J", Cond.constantLong RX3 43 (2), Cond.fieldLink RX3 15 "StruckCounts$Tally" "rests" "[I", Cond.methodLink RX3 39 yX3_has, Cond.instanceMethod yX3_has, Cond.selects RX3 yX3_has yX3_has, Cond.code yX3_has cX3_has 2 (some .boolean), Cond.methodLink RX0 41 yX0_hasStruck, Cond.instanceMethod yX0_hasStruck]
def wsL_quotient_r3 : List Cond := [Cond.selects RX0 yX0_hasStruck yX0_hasStruck, Cond.code yX0_hasStruck cX0_hasStruck 2 (some .boolean), Cond.fieldLink RX0 33 "StruckCounts$Board" "struck" "J", Cond.methodLink RX0 45 yX0_primeAt, Cond.instanceMethod yX0_primeAt, Cond.selects RX0 yX0_primeAt yX0_primeAt, Cond.code yX0_primeAt cX0_primeAt 2 (some .int), Cond.methodLink RX0 49 yX3_remove, Cond.instanceMethod yX3_remove, Cond.selects RX3 yX3_remove yX3_remove, Cond.code yX3_remove cX3_remove 5 none, Cond.methodLink RX3 52 yX3_valueAt, Cond.instanceMethod yX3_valueAt, Cond.selects RX3 yX3_valueAt yX3_valueAt, Cond.code yX3_valueAt cX3_valueAt 2 (some .int), Cond.methodLink RX3 56 yX3_placeOf, Cond.instanceMethod yX3_placeOf, Cond.selects RX3 yX3_placeOf yX3_placeOf, Cond.code yX3_placeOf cX3_placeOf 3 (some .int), Cond.methodLink RX6 156 yX3_valueAt]
def wsL_quotient : List Cond := .codeWith yL_quotient cL_quotient 3 (some .int) [(0, 5, 6, 39)] :: ((wsL_quotient_r1 ++ (wsL_quotient_r2 ++ wsL_quotient_r3)) ++ wsX60 ++ wsX30 ++ wsX00 ++ (vx_atS RX6 283 "java/lang/IndexOutOfBoundsException" ["java/lang/RuntimeException", "java/lang/Exception"]).filter goodWord)
def wsL_left_r1 : List Cond := [Cond.classLink RL 39 "java/lang/IndexOutOfBoundsException", Cond.constant RL 17 (-2000001), Cond.methodLink RL 41 yX6_left, Cond.instanceMethod yX6_left, Cond.selects RX6 yX6_left yX6_left, Cond.initialized RX6, Cond.code yX6_left cX6_left 2 (some .int), Cond.fieldLink RX6 19 "StruckCounts" "board" "LStruckCounts$Board;", Cond.methodLink RX6 153 yX6_checkQuotient, Cond.instanceMethod yX6_checkQuotient, Cond.selects RX6 yX6_checkQuotient yX6_checkQuotient, Cond.code yX6_checkQuotient cX6_checkQuotient 2 none, Cond.classLink RX6 279 "java/lang/IndexOutOfBoundsException", Cond.initialized "java/lang/IndexOutOfBoundsException", Cond.methodLink RX6 119 yX0_tally, Cond.instanceMethod yX0_tally, Cond.selects RX0 yX0_tally yX0_tally, Cond.initialized RX0, Cond.code yX0_tally cX0_tally 1 (some (.object "StruckCounts$Tally")), Cond.fieldLink RX0 37 "StruckCounts$Board" "tallied" "I", Cond.fieldLink RX0 12 "StruckCounts$Board" "tally" "LStruckCounts$Tally;", Cond.fieldLink RX0 26 "StruckCounts$Board" "bound" "I", Cond.fieldLink RX0 30 "StruckCounts$Board" "came" "I", Cond.methodLink RX0 40 yX3_begin]
def wsL_left_r2 : List Cond := [Cond.instanceMethod yX3_begin, Cond.selects RX3 yX3_begin yX3_begin, Cond.initialized RX3, Cond.code yX3_begin cX3_begin 4 none, Cond.fieldLink RX3 22 "StruckCounts$Tally" "bound" "I", Cond.fieldLink RX3 26 "StruckCounts$Tally" "size" "I", Cond.methodLink RX3 33 Lib.Math.max.name, Cond.static Lib.Math.max.name, Cond.initialized "java/lang/Math", Cond.code Lib.Math.max.name Lib.Math.max.code 2 (some .int), Cond.methodLink RX3 29 yX3_fill, Cond.instanceMethod yX3_fill, Cond.selects RX3 yX3_fill yX3_fill, Cond.code yX3_fill cX3_fill 4 none, Cond.fieldLink RX3 11 "StruckCounts$Tally" "values" "[I", Cond.fieldLink RX3 18 "StruckCounts$Tally" "sums" "[J", Cond.constantLong RX3 43 (2), Cond.fieldLink RX3 15 "StruckCounts$Tally" "rests" "[I", Cond.methodLink RX3 39 yX3_has, Cond.instanceMethod yX3_has, Cond.selects RX3 yX3_has yX3_has, Cond.code yX3_has cX3_has 2 (some .boolean), Cond.methodLink RX0 41 yX0_hasStruck, Cond.instanceMethod yX0_hasStruck]
def wsL_left_r3 : List Cond := [Cond.selects RX0 yX0_hasStruck yX0_hasStruck, Cond.code yX0_hasStruck cX0_hasStruck 2 (some .boolean), Cond.fieldLink RX0 33 "StruckCounts$Board" "struck" "J", Cond.methodLink RX0 45 yX0_primeAt, Cond.instanceMethod yX0_primeAt, Cond.selects RX0 yX0_primeAt yX0_primeAt, Cond.code yX0_primeAt cX0_primeAt 2 (some .int), Cond.methodLink RX0 49 yX3_remove, Cond.instanceMethod yX3_remove, Cond.selects RX3 yX3_remove yX3_remove, Cond.code yX3_remove cX3_remove 5 none, Cond.methodLink RX3 52 yX3_valueAt, Cond.instanceMethod yX3_valueAt, Cond.selects RX3 yX3_valueAt yX3_valueAt, Cond.code yX3_valueAt cX3_valueAt 2 (some .int), Cond.methodLink RX3 56 yX3_placeOf, Cond.instanceMethod yX3_placeOf, Cond.selects RX3 yX3_placeOf yX3_placeOf, Cond.code yX3_placeOf cX3_placeOf 3 (some .int), Cond.methodLink RX6 162 yX3_countAt, Cond.instanceMethod yX3_countAt, Cond.selects RX3 yX3_countAt yX3_countAt, Cond.code yX3_countAt cX3_countAt 4 (some .int), Cond.methodLink RX3 45 yX3_restAt]
def wsL_left_r4 : List Cond := [Cond.instanceMethod yX3_restAt, Cond.selects RX3 yX3_restAt yX3_restAt, Cond.code yX3_restAt cX3_restAt 3 (some .int), Cond.static yX6_outside, Cond.code yX6_outside cX6_outside 3 (some .boolean)]
def wsL_left : List Cond := .codeWith yL_left cL_left 3 (some .int) [(0, 5, 6, 39)] :: ((wsL_left_r1 ++ (wsL_left_r2 ++ (wsL_left_r3 ++ wsL_left_r4))) ++ wsX60 ++ wsX30 ++ wsX00 ++ (vx_atS RX6 283 "java/lang/IndexOutOfBoundsException" ["java/lang/RuntimeException", "java/lang/Exception"]).filter goodWord)
def wsL_restLeft_r1 : List Cond := [Cond.classLink RL 39 "java/lang/IndexOutOfBoundsException", Cond.classLink RL 15 "java/lang/IllegalArgumentException", Cond.constant RL 17 (-2000001), Cond.constant RL 48 (-2000002), Cond.methodLink RL 44 yX6_restLeft, Cond.instanceMethod yX6_restLeft, Cond.selects RX6 yX6_restLeft yX6_restLeft, Cond.initialized RX6, Cond.code yX6_restLeft cX6_restLeft 3 (some .int), Cond.classLink RX6 44 "java/lang/IllegalArgumentException", Cond.initialized "java/lang/IllegalArgumentException", Cond.fieldLink RX6 19 "StruckCounts" "board" "LStruckCounts$Board;", Cond.methodLink RX6 153 yX6_checkQuotient, Cond.instanceMethod yX6_checkQuotient, Cond.selects RX6 yX6_checkQuotient yX6_checkQuotient, Cond.code yX6_checkQuotient cX6_checkQuotient 2 none, Cond.classLink RX6 279 "java/lang/IndexOutOfBoundsException", Cond.initialized "java/lang/IndexOutOfBoundsException", Cond.methodLink RX6 119 yX0_tally, Cond.instanceMethod yX0_tally, Cond.selects RX0 yX0_tally yX0_tally, Cond.initialized RX0, Cond.code yX0_tally cX0_tally 1 (some (.object "StruckCounts$Tally")), Cond.fieldLink RX0 37 "StruckCounts$Board" "tallied" "I"]
def wsL_restLeft_r2 : List Cond := [Cond.fieldLink RX0 12 "StruckCounts$Board" "tally" "LStruckCounts$Tally;", Cond.fieldLink RX0 26 "StruckCounts$Board" "bound" "I", Cond.fieldLink RX0 30 "StruckCounts$Board" "came" "I", Cond.methodLink RX0 40 yX3_begin, Cond.instanceMethod yX3_begin, Cond.selects RX3 yX3_begin yX3_begin, Cond.initialized RX3, Cond.code yX3_begin cX3_begin 4 none, Cond.fieldLink RX3 22 "StruckCounts$Tally" "bound" "I", Cond.fieldLink RX3 26 "StruckCounts$Tally" "size" "I", Cond.methodLink RX3 33 Lib.Math.max.name, Cond.static Lib.Math.max.name, Cond.initialized "java/lang/Math", Cond.code Lib.Math.max.name Lib.Math.max.code 2 (some .int), Cond.methodLink RX3 29 yX3_fill, Cond.instanceMethod yX3_fill, Cond.selects RX3 yX3_fill yX3_fill, Cond.code yX3_fill cX3_fill 4 none, Cond.fieldLink RX3 11 "StruckCounts$Tally" "values" "[I", Cond.fieldLink RX3 18 "StruckCounts$Tally" "sums" "[J", Cond.constantLong RX3 43 (2), Cond.fieldLink RX3 15 "StruckCounts$Tally" "rests" "[I", Cond.methodLink RX3 39 yX3_has, Cond.instanceMethod yX3_has]
def wsL_restLeft_r3 : List Cond := [Cond.selects RX3 yX3_has yX3_has, Cond.code yX3_has cX3_has 2 (some .boolean), Cond.methodLink RX0 41 yX0_hasStruck, Cond.instanceMethod yX0_hasStruck, Cond.selects RX0 yX0_hasStruck yX0_hasStruck, Cond.code yX0_hasStruck cX0_hasStruck 2 (some .boolean), Cond.fieldLink RX0 33 "StruckCounts$Board" "struck" "J", Cond.methodLink RX0 45 yX0_primeAt, Cond.instanceMethod yX0_primeAt, Cond.selects RX0 yX0_primeAt yX0_primeAt, Cond.code yX0_primeAt cX0_primeAt 2 (some .int), Cond.methodLink RX0 49 yX3_remove, Cond.instanceMethod yX3_remove, Cond.selects RX3 yX3_remove yX3_remove, Cond.code yX3_remove cX3_remove 5 none, Cond.methodLink RX3 52 yX3_valueAt, Cond.instanceMethod yX3_valueAt, Cond.selects RX3 yX3_valueAt yX3_valueAt, Cond.code yX3_valueAt cX3_valueAt 2 (some .int), Cond.methodLink RX3 56 yX3_placeOf, Cond.instanceMethod yX3_placeOf, Cond.selects RX3 yX3_placeOf yX3_placeOf, Cond.code yX3_placeOf cX3_placeOf 3 (some .int), Cond.methodLink RX6 40 yX6_outside]
def wsL_restLeft_r4 : List Cond := [Cond.static yX6_outside, Cond.code yX6_outside cX6_outside 3 (some .boolean), Cond.methodLink RX6 171 yX3_restAt, Cond.instanceMethod yX3_restAt, Cond.selects RX3 yX3_restAt yX3_restAt, Cond.code yX3_restAt cX3_restAt 3 (some .int)]
def wsL_restLeft : List Cond := .codeWith yL_restLeft cL_restLeft 4 (some .int) [(0, 6, 7, 39), (0, 6, 11, 15)] :: ((wsL_restLeft_r1 ++ (wsL_restLeft_r2 ++ (wsL_restLeft_r3 ++ wsL_restLeft_r4))) ++ wsX60 ++ wsX30 ++ wsX00 ++ (vx_atS RX6 48 "java/lang/IllegalArgumentException" ["java/lang/RuntimeException", "java/lang/Exception"]).filter goodWord ++ (vx_atS RX6 283 "java/lang/IndexOutOfBoundsException" ["java/lang/RuntimeException", "java/lang/Exception"]).filter goodWord)
def wsL_came : List Cond := .codeWith yL_came cL_came 3 (some .int) [(0, 5, 6, 15)] :: ([.classLink RL 15 "java/lang/IllegalArgumentException", .constant RL 17 (-2000001), .methodLink RL 49 yX6_came, .instanceMethod yX6_came, .selects RX6 yX6_came yX6_came, .initialized RX6, .code yX6_came cX6_came 3 (some .int), .classLink RX6 44 "java/lang/IllegalArgumentException", .initialized "java/lang/IllegalArgumentException", .fieldLink RX6 19 "StruckCounts" "board" "LStruckCounts$Board;", .methodLink RX6 147 yX0_primeAt, .instanceMethod yX0_primeAt, .selects RX0 yX0_primeAt yX0_primeAt, .initialized RX0, .code yX0_primeAt cX0_primeAt 2 (some .int), .methodLink RX6 176 yX0_hasStruck, .instanceMethod yX0_hasStruck, .selects RX0 yX0_hasStruck yX0_hasStruck, .code yX0_hasStruck cX0_hasStruck 2 (some .boolean), .fieldLink RX0 33 "StruckCounts$Board" "struck" "J"] ++ wsX60 ++ wsX00 ++ (vx_atS RX6 48 "java/lang/IllegalArgumentException" ["java/lang/RuntimeException", "java/lang/Exception"]).filter goodWord)
def wsL_wouldStrike_r1 : List Cond := [Cond.classLink RL 39 "java/lang/IndexOutOfBoundsException", Cond.constant RL 17 (-2000001), Cond.methodLink RL 52 yX6_wouldStrike, Cond.instanceMethod yX6_wouldStrike, Cond.selects RX6 yX6_wouldStrike yX6_wouldStrike, Cond.initialized RX6, Cond.code yX6_wouldStrike cX6_wouldStrike 3 (some .int), Cond.fieldLink RX6 19 "StruckCounts" "board" "LStruckCounts$Board;", Cond.methodLink RX6 153 yX6_checkQuotient, Cond.instanceMethod yX6_checkQuotient, Cond.selects RX6 yX6_checkQuotient yX6_checkQuotient, Cond.code yX6_checkQuotient cX6_checkQuotient 2 none, Cond.classLink RX6 279 "java/lang/IndexOutOfBoundsException", Cond.initialized "java/lang/IndexOutOfBoundsException", Cond.methodLink RX6 119 yX0_tally, Cond.instanceMethod yX0_tally, Cond.selects RX0 yX0_tally yX0_tally, Cond.initialized RX0, Cond.code yX0_tally cX0_tally 1 (some (.object "StruckCounts$Tally")), Cond.fieldLink RX0 37 "StruckCounts$Board" "tallied" "I", Cond.fieldLink RX0 12 "StruckCounts$Board" "tally" "LStruckCounts$Tally;", Cond.fieldLink RX0 26 "StruckCounts$Board" "bound" "I", Cond.fieldLink RX0 30 "StruckCounts$Board" "came" "I", Cond.methodLink RX0 40 yX3_begin]
def wsL_wouldStrike_r2 : List Cond := [Cond.instanceMethod yX3_begin, Cond.selects RX3 yX3_begin yX3_begin, Cond.initialized RX3, Cond.code yX3_begin cX3_begin 4 none, Cond.fieldLink RX3 22 "StruckCounts$Tally" "bound" "I", Cond.fieldLink RX3 26 "StruckCounts$Tally" "size" "I", Cond.methodLink RX3 33 Lib.Math.max.name, Cond.static Lib.Math.max.name, Cond.initialized "java/lang/Math", Cond.code Lib.Math.max.name Lib.Math.max.code 2 (some .int), Cond.methodLink RX3 29 yX3_fill, Cond.instanceMethod yX3_fill, Cond.selects RX3 yX3_fill yX3_fill, Cond.code yX3_fill cX3_fill 4 none, Cond.fieldLink RX3 11 "StruckCounts$Tally" "values" "[I", Cond.fieldLink RX3 18 "StruckCounts$Tally" "sums" "[J", Cond.constantLong RX3 43 (2), Cond.fieldLink RX3 15 "StruckCounts$Tally" "rests" "[I", Cond.methodLink RX3 39 yX3_has, Cond.instanceMethod yX3_has, Cond.selects RX3 yX3_has yX3_has, Cond.code yX3_has cX3_has 2 (some .boolean), Cond.methodLink RX0 41 yX0_hasStruck, Cond.instanceMethod yX0_hasStruck]
def wsL_wouldStrike_r3 : List Cond := [Cond.selects RX0 yX0_hasStruck yX0_hasStruck, Cond.code yX0_hasStruck cX0_hasStruck 2 (some .boolean), Cond.fieldLink RX0 33 "StruckCounts$Board" "struck" "J", Cond.methodLink RX0 45 yX0_primeAt, Cond.instanceMethod yX0_primeAt, Cond.selects RX0 yX0_primeAt yX0_primeAt, Cond.code yX0_primeAt cX0_primeAt 2 (some .int), Cond.methodLink RX0 49 yX3_remove, Cond.instanceMethod yX3_remove, Cond.selects RX3 yX3_remove yX3_remove, Cond.code yX3_remove cX3_remove 5 none, Cond.methodLink RX3 52 yX3_valueAt, Cond.instanceMethod yX3_valueAt, Cond.selects RX3 yX3_valueAt yX3_valueAt, Cond.code yX3_valueAt cX3_valueAt 2 (some .int), Cond.methodLink RX3 56 yX3_placeOf, Cond.instanceMethod yX3_placeOf, Cond.selects RX3 yX3_placeOf yX3_placeOf, Cond.code yX3_placeOf cX3_placeOf 3 (some .int), Cond.methodLink RX6 144 yX0_nextPrime, Cond.instanceMethod yX0_nextPrime, Cond.selects RX0 yX0_nextPrime yX0_nextPrime, Cond.code yX0_nextPrime cX0_nextPrime 2 (some .int), Cond.methodLink RX6 203 yX3_multiplesAt]
def wsL_wouldStrike_r4 : List Cond := [Cond.instanceMethod yX3_multiplesAt, Cond.selects RX3 yX3_multiplesAt yX3_multiplesAt, Cond.code yX3_multiplesAt cX3_multiplesAt 3 (some .int), Cond.methodLink RX3 59 yX3_countAt, Cond.instanceMethod yX3_countAt, Cond.selects RX3 yX3_countAt yX3_countAt, Cond.code yX3_countAt cX3_countAt 4 (some .int), Cond.methodLink RX3 45 yX3_restAt, Cond.instanceMethod yX3_restAt, Cond.selects RX3 yX3_restAt yX3_restAt, Cond.code yX3_restAt cX3_restAt 3 (some .int), Cond.static yX6_outside, Cond.code yX6_outside cX6_outside 3 (some .boolean)]
def wsL_wouldStrike : List Cond := .codeWith yL_wouldStrike cL_wouldStrike 3 (some .int) [(0, 5, 6, 39)] :: ((wsL_wouldStrike_r1 ++ (wsL_wouldStrike_r2 ++ (wsL_wouldStrike_r3 ++ wsL_wouldStrike_r4))) ++ wsX60 ++ wsX30 ++ wsX00 ++ (vx_atS RX6 283 "java/lang/IndexOutOfBoundsException" ["java/lang/RuntimeException", "java/lang/Exception"]).filter goodWord)
def wsL_sumLeft_r1 : List Cond := [Cond.classLink RL 39 "java/lang/IndexOutOfBoundsException", Cond.constantLong RL 59 (-2000001), Cond.methodLink RL 55 yX6_sumLeft, Cond.instanceMethod yX6_sumLeft, Cond.selects RX6 yX6_sumLeft yX6_sumLeft, Cond.initialized RX6, Cond.code yX6_sumLeft cX6_sumLeft 2 (some .long), Cond.fieldLink RX6 19 "StruckCounts" "board" "LStruckCounts$Board;", Cond.methodLink RX6 153 yX6_checkQuotient, Cond.instanceMethod yX6_checkQuotient, Cond.selects RX6 yX6_checkQuotient yX6_checkQuotient, Cond.code yX6_checkQuotient cX6_checkQuotient 2 none, Cond.classLink RX6 279 "java/lang/IndexOutOfBoundsException", Cond.initialized "java/lang/IndexOutOfBoundsException", Cond.methodLink RX6 119 yX0_tally, Cond.instanceMethod yX0_tally, Cond.selects RX0 yX0_tally yX0_tally, Cond.initialized RX0, Cond.code yX0_tally cX0_tally 1 (some (.object "StruckCounts$Tally")), Cond.fieldLink RX0 37 "StruckCounts$Board" "tallied" "I", Cond.fieldLink RX0 12 "StruckCounts$Board" "tally" "LStruckCounts$Tally;", Cond.fieldLink RX0 26 "StruckCounts$Board" "bound" "I", Cond.fieldLink RX0 30 "StruckCounts$Board" "came" "I", Cond.methodLink RX0 40 yX3_begin]
def wsL_sumLeft_r2 : List Cond := [Cond.instanceMethod yX3_begin, Cond.selects RX3 yX3_begin yX3_begin, Cond.initialized RX3, Cond.code yX3_begin cX3_begin 4 none, Cond.fieldLink RX3 22 "StruckCounts$Tally" "bound" "I", Cond.fieldLink RX3 26 "StruckCounts$Tally" "size" "I", Cond.methodLink RX3 33 Lib.Math.max.name, Cond.static Lib.Math.max.name, Cond.initialized "java/lang/Math", Cond.code Lib.Math.max.name Lib.Math.max.code 2 (some .int), Cond.methodLink RX3 29 yX3_fill, Cond.instanceMethod yX3_fill, Cond.selects RX3 yX3_fill yX3_fill, Cond.code yX3_fill cX3_fill 4 none, Cond.fieldLink RX3 11 "StruckCounts$Tally" "values" "[I", Cond.fieldLink RX3 18 "StruckCounts$Tally" "sums" "[J", Cond.constantLong RX3 43 (2), Cond.fieldLink RX3 15 "StruckCounts$Tally" "rests" "[I", Cond.methodLink RX3 39 yX3_has, Cond.instanceMethod yX3_has, Cond.selects RX3 yX3_has yX3_has, Cond.code yX3_has cX3_has 2 (some .boolean), Cond.methodLink RX0 41 yX0_hasStruck, Cond.instanceMethod yX0_hasStruck]
def wsL_sumLeft_r3 : List Cond := [Cond.selects RX0 yX0_hasStruck yX0_hasStruck, Cond.code yX0_hasStruck cX0_hasStruck 2 (some .boolean), Cond.fieldLink RX0 33 "StruckCounts$Board" "struck" "J", Cond.methodLink RX0 45 yX0_primeAt, Cond.instanceMethod yX0_primeAt, Cond.selects RX0 yX0_primeAt yX0_primeAt, Cond.code yX0_primeAt cX0_primeAt 2 (some .int), Cond.methodLink RX0 49 yX3_remove, Cond.instanceMethod yX3_remove, Cond.selects RX3 yX3_remove yX3_remove, Cond.code yX3_remove cX3_remove 5 none, Cond.methodLink RX3 52 yX3_valueAt, Cond.instanceMethod yX3_valueAt, Cond.selects RX3 yX3_valueAt yX3_valueAt, Cond.code yX3_valueAt cX3_valueAt 2 (some .int), Cond.methodLink RX3 56 yX3_placeOf, Cond.instanceMethod yX3_placeOf, Cond.selects RX3 yX3_placeOf yX3_placeOf, Cond.code yX3_placeOf cX3_placeOf 3 (some .int), Cond.methodLink RX6 165 yX3_sumAt, Cond.instanceMethod yX3_sumAt, Cond.selects RX3 yX3_sumAt yX3_sumAt, Cond.code yX3_sumAt cX3_sumAt 2 (some .long)]
def wsL_sumLeft : List Cond := .codeWith yL_sumLeft cL_sumLeft 3 (some .long) [(0, 5, 6, 39)] :: ((wsL_sumLeft_r1 ++ (wsL_sumLeft_r2 ++ wsL_sumLeft_r3)) ++ wsX60 ++ wsX30 ++ wsX00 ++ (vx_atS RX6 283 "java/lang/IndexOutOfBoundsException" ["java/lang/RuntimeException", "java/lang/Exception"]).filter goodWord)
def wsL_hangs_r1 : List Cond := [Cond.constant RL 17 (-2000001), Cond.methodLink RL 61 yL_about, Cond.static yL_about, Cond.initialized RL, Cond.codeWith yL_about cL_about 3 (some .int) [(0, 5, 6, 15)], Cond.classLink RL 15 "java/lang/IllegalArgumentException", Cond.methodLink RL 33 yX6_about, Cond.instanceMethod yX6_about, Cond.selects RX6 yX6_about yX6_about, Cond.initialized RX6, Cond.code yX6_about cX6_about 2 (some .int), Cond.classLink RX6 44 "java/lang/IllegalArgumentException", Cond.initialized "java/lang/IllegalArgumentException", Cond.fieldLink RX6 19 "StruckCounts" "board" "LStruckCounts$Board;", Cond.methodLink RX6 119 yX0_tally, Cond.instanceMethod yX0_tally, Cond.selects RX0 yX0_tally yX0_tally, Cond.initialized RX0, Cond.code yX0_tally cX0_tally 1 (some (.object "StruckCounts$Tally")), Cond.fieldLink RX0 37 "StruckCounts$Board" "tallied" "I", Cond.fieldLink RX0 12 "StruckCounts$Board" "tally" "LStruckCounts$Tally;", Cond.fieldLink RX0 26 "StruckCounts$Board" "bound" "I", Cond.fieldLink RX0 30 "StruckCounts$Board" "came" "I", Cond.methodLink RX0 40 yX3_begin]
def wsL_hangs_r2 : List Cond := [Cond.instanceMethod yX3_begin, Cond.selects RX3 yX3_begin yX3_begin, Cond.initialized RX3, Cond.code yX3_begin cX3_begin 4 none, Cond.fieldLink RX3 22 "StruckCounts$Tally" "bound" "I", Cond.fieldLink RX3 26 "StruckCounts$Tally" "size" "I", Cond.methodLink RX3 33 Lib.Math.max.name, Cond.static Lib.Math.max.name, Cond.initialized "java/lang/Math", Cond.code Lib.Math.max.name Lib.Math.max.code 2 (some .int), Cond.methodLink RX3 29 yX3_fill, Cond.instanceMethod yX3_fill, Cond.selects RX3 yX3_fill yX3_fill, Cond.code yX3_fill cX3_fill 4 none, Cond.fieldLink RX3 11 "StruckCounts$Tally" "values" "[I", Cond.fieldLink RX3 18 "StruckCounts$Tally" "sums" "[J", Cond.constantLong RX3 43 (2), Cond.fieldLink RX3 15 "StruckCounts$Tally" "rests" "[I", Cond.methodLink RX3 39 yX3_has, Cond.instanceMethod yX3_has, Cond.selects RX3 yX3_has yX3_has, Cond.code yX3_has cX3_has 2 (some .boolean), Cond.methodLink RX0 41 yX0_hasStruck, Cond.instanceMethod yX0_hasStruck]
def wsL_hangs_r3 : List Cond := [Cond.selects RX0 yX0_hasStruck yX0_hasStruck, Cond.code yX0_hasStruck cX0_hasStruck 2 (some .boolean), Cond.fieldLink RX0 33 "StruckCounts$Board" "struck" "J", Cond.methodLink RX0 45 yX0_primeAt, Cond.instanceMethod yX0_primeAt, Cond.selects RX0 yX0_primeAt yX0_primeAt, Cond.code yX0_primeAt cX0_primeAt 2 (some .int), Cond.methodLink RX0 49 yX3_remove, Cond.instanceMethod yX3_remove, Cond.selects RX3 yX3_remove yX3_remove, Cond.code yX3_remove cX3_remove 5 none, Cond.methodLink RX3 52 yX3_valueAt, Cond.instanceMethod yX3_valueAt, Cond.selects RX3 yX3_valueAt yX3_valueAt, Cond.code yX3_valueAt cX3_valueAt 2 (some .int), Cond.methodLink RX3 56 yX3_placeOf, Cond.instanceMethod yX3_placeOf, Cond.selects RX3 yX3_placeOf yX3_placeOf, Cond.code yX3_placeOf cX3_placeOf 3 (some .int), Cond.methodLink RX6 132 yJ13_bitCount_95d88, Cond.static yJ13_bitCount_95d88, Cond.initialized RJ13, Cond.code yJ13_bitCount_95d88 cJ13_bitCount_95d88 2 (some .int), Cond.constantLong RJ13 314 (6148914691236517205)]
def wsL_hangs_r4 : List Cond := [Cond.constantLong RJ13 316 (3689348814741910323), Cond.constantLong RJ13 318 (1085102592571150095), Cond.methodLink RX6 141 yX0_countLeft, Cond.instanceMethod yX0_countLeft, Cond.selects RX0 yX0_countLeft yX0_countLeft, Cond.code yX0_countLeft cX0_countLeft 1 (some .int), Cond.methodLink RX0 52 yX0_tally, Cond.methodLink RX0 55 yX3_countAt, Cond.instanceMethod yX3_countAt, Cond.selects RX3 yX3_countAt yX3_countAt, Cond.code yX3_countAt cX3_countAt 4 (some .int), Cond.methodLink RX3 45 yX3_restAt, Cond.instanceMethod yX3_restAt, Cond.selects RX3 yX3_restAt yX3_restAt, Cond.code yX3_restAt cX3_restAt 3 (some .int), Cond.static yX6_outside, Cond.code yX6_outside cX6_outside 3 (some .boolean), Cond.methodLink RX6 144 yX0_nextPrime, Cond.instanceMethod yX0_nextPrime, Cond.selects RX0 yX0_nextPrime yX0_nextPrime, Cond.code yX0_nextPrime cX0_nextPrime 2 (some .int), Cond.methodLink RX6 147 yX0_primeAt, Cond.methodLink RL 66 yL_quotient, Cond.static yL_quotient]
def wsL_hangs_r5 : List Cond := [Cond.codeWith yL_quotient cL_quotient 3 (some .int) [(0, 5, 6, 39)], Cond.classLink RL 39 "java/lang/IndexOutOfBoundsException", Cond.methodLink RL 36 yX6_quotient, Cond.instanceMethod yX6_quotient, Cond.selects RX6 yX6_quotient yX6_quotient, Cond.code yX6_quotient cX6_quotient 2 (some .int), Cond.methodLink RX6 153 yX6_checkQuotient, Cond.instanceMethod yX6_checkQuotient, Cond.selects RX6 yX6_checkQuotient yX6_checkQuotient, Cond.code yX6_checkQuotient cX6_checkQuotient 2 none, Cond.classLink RX6 279 "java/lang/IndexOutOfBoundsException", Cond.initialized "java/lang/IndexOutOfBoundsException", Cond.methodLink RX6 156 yX3_valueAt, Cond.methodLink RL 68 yL_left, Cond.static yL_left, Cond.codeWith yL_left cL_left 3 (some .int) [(0, 5, 6, 39)], Cond.methodLink RL 41 yX6_left, Cond.instanceMethod yX6_left, Cond.selects RX6 yX6_left yX6_left, Cond.code yX6_left cX6_left 2 (some .int), Cond.methodLink RX6 162 yX3_countAt, Cond.methodLink RL 70 yL_sumLeft, Cond.static yL_sumLeft, Cond.codeWith yL_sumLeft cL_sumLeft 3 (some .long) [(0, 5, 6, 39)]]
def wsL_hangs_r6 : List Cond := [Cond.constantLong RL 59 (-2000001), Cond.methodLink RL 55 yX6_sumLeft, Cond.instanceMethod yX6_sumLeft, Cond.selects RX6 yX6_sumLeft yX6_sumLeft, Cond.code yX6_sumLeft cX6_sumLeft 2 (some .long), Cond.methodLink RX6 165 yX3_sumAt, Cond.instanceMethod yX3_sumAt, Cond.selects RX3 yX3_sumAt yX3_sumAt, Cond.code yX3_sumAt cX3_sumAt 2 (some .long), Cond.methodLink RL 73 yX6_quotientOf, Cond.instanceMethod yX6_quotientOf, Cond.selects RX6 yX6_quotientOf yX6_quotientOf, Cond.code yX6_quotientOf cX6_quotientOf 2 (some .int), Cond.methodLink RX6 159 yX3_placeOf, Cond.methodLink RL 76 yL_restLeft, Cond.static yL_restLeft, Cond.codeWith yL_restLeft cL_restLeft 4 (some .int) [(0, 6, 7, 39), (0, 6, 11, 15)], Cond.constant RL 48 (-2000002), Cond.methodLink RL 44 yX6_restLeft, Cond.instanceMethod yX6_restLeft, Cond.selects RX6 yX6_restLeft yX6_restLeft, Cond.code yX6_restLeft cX6_restLeft 3 (some .int), Cond.methodLink RX6 40 yX6_outside, Cond.methodLink RX6 171 yX3_restAt]
def wsL_hangs_r7 : List Cond := [Cond.methodLink RL 79 yL_wouldStrike, Cond.static yL_wouldStrike, Cond.codeWith yL_wouldStrike cL_wouldStrike 3 (some .int) [(0, 5, 6, 39)], Cond.methodLink RL 52 yX6_wouldStrike, Cond.instanceMethod yX6_wouldStrike, Cond.selects RX6 yX6_wouldStrike yX6_wouldStrike, Cond.code yX6_wouldStrike cX6_wouldStrike 3 (some .int), Cond.methodLink RX6 203 yX3_multiplesAt, Cond.instanceMethod yX3_multiplesAt, Cond.selects RX3 yX3_multiplesAt yX3_multiplesAt, Cond.code yX3_multiplesAt cX3_multiplesAt 3 (some .int), Cond.methodLink RX3 59 yX3_countAt, Cond.methodLink RL 81 yL_came, Cond.static yL_came, Cond.codeWith yL_came cL_came 3 (some .int) [(0, 5, 6, 15)], Cond.methodLink RL 49 yX6_came, Cond.instanceMethod yX6_came, Cond.selects RX6 yX6_came yX6_came, Cond.code yX6_came cX6_came 3 (some .int), Cond.methodLink RX6 176 yX0_hasStruck]
def wsL_hangs : List Cond := .code yL_hangs cL_hangs 11 (some .boolean) :: ((wsL_hangs_r1 ++ (wsL_hangs_r2 ++ (wsL_hangs_r3 ++ (wsL_hangs_r4 ++ (wsL_hangs_r5 ++ (wsL_hangs_r6 ++ wsL_hangs_r7)))))) ++ wsX60 ++ wsX00 ++ wsX30 ++ (vx_atS RX6 48 "java/lang/IllegalArgumentException" ["java/lang/RuntimeException", "java/lang/Exception"]).filter goodWord ++ (vx_atS RX6 283 "java/lang/IndexOutOfBoundsException" ["java/lang/RuntimeException", "java/lang/Exception"]).filter goodWord)
def wsL_law0_r1 : List Cond := [Cond.classLink RL 10 RX6, Cond.instantiable RX6 5, Cond.initialized RX6, Cond.constant RL 17 (-2000001), Cond.constant RL 106 (100000), Cond.constant RL 48 (-2000002), Cond.methodLink RL 83 yX6_init, Cond.instanceMethod yX6_init, Cond.code yX6_init cX6_init 1 none, Cond.methodLink RX6 1 objectInit, Cond.instanceMethod objectInit, Cond.code objectInit ⟨#[0xb1]⟩ 1 none, Cond.classLink RX6 7 RX4, Cond.instantiable RX4 7, Cond.initialized RX4, Cond.fieldLink RX6 10 "StruckCounts" "text" "LStruckCounts$Text;", Cond.classLink RX6 16 RX0, Cond.instantiable RX0 5, Cond.initialized RX0, Cond.fieldLink RX6 19 "StruckCounts" "board" "LStruckCounts$Board;", Cond.classLink RX6 23 RX2, Cond.instantiable RX2 5, Cond.initialized RX2, Cond.fieldLink RX6 26 "StruckCounts" "store" "LStruckCounts$Store;"]
def wsL_law0_r2 : List Cond := [Cond.classLink RX6 30 RX1, Cond.instantiable RX1 1, Cond.initialized RX1, Cond.fieldLink RX6 33 "StruckCounts" "primeRow" "LStruckCounts$Primes;", Cond.fieldLink RX6 37 "StruckCounts" "trial" "LStruckCounts$Board;", Cond.instanceMethod yX4_init, Cond.code yX4_init cX4_init 1 none, Cond.methodLink RX4 3 objectInit, Cond.arrayClass .char, Cond.fieldLink RX4 9 "StruckCounts$Text" "signs" "[C", Cond.methodLink RX6 18 yX0_init, Cond.instanceMethod yX0_init, Cond.code yX0_init cX0_init 1 none, Cond.methodLink RX0 3 objectInit, Cond.classLink RX0 9 RX3, Cond.instantiable RX3 5, Cond.initialized RX3, Cond.fieldLink RX0 12 "StruckCounts$Board" "tally" "LStruckCounts$Tally;", Cond.instanceMethod yX3_init, Cond.code yX3_init cX3_init 1 none, Cond.methodLink RX3 3 objectInit, Cond.arrayClass .int, Cond.fieldLink RX3 11 "StruckCounts$Tally" "values" "[I", Cond.fieldLink RX3 15 "StruckCounts$Tally" "rests" "[I"]
def wsL_law0_r3 : List Cond := [Cond.arrayClass .long, Cond.fieldLink RX3 18 "StruckCounts$Tally" "sums" "[J", Cond.methodLink RX0 18 yX0_begin, Cond.instanceMethod yX0_begin, Cond.selects RX0 yX0_begin yX0_begin, Cond.code yX0_begin cX0_begin 2 none, Cond.methodLink RX0 22 yX0_show, Cond.instanceMethod yX0_show, Cond.selects RX0 yX0_show yX0_show, Cond.code yX0_show cX0_show 5 none, Cond.fieldLink RX0 26 "StruckCounts$Board" "bound" "I", Cond.fieldLink RX0 30 "StruckCounts$Board" "came" "I", Cond.fieldLink RX0 33 "StruckCounts$Board" "struck" "J", Cond.fieldLink RX0 37 "StruckCounts$Board" "tallied" "I", Cond.instanceMethod yX2_init, Cond.code yX2_init cX2_init 1 none, Cond.methodLink RX2 3 objectInit, Cond.fieldLink RX2 11 "StruckCounts$Store" "bounds" "[I", Cond.fieldLink RX2 15 "StruckCounts$Store" "cames" "[I", Cond.fieldLink RX2 18 "StruckCounts$Store" "strucks" "[J", Cond.methodLink RX6 32 yX1_init, Cond.instanceMethod yX1_init, Cond.code yX1_init cX1_init 6 none, Cond.methodLink RX1 5 objectInit]
def wsL_law0_r4 : List Cond := [Cond.fieldLink RX1 11 "StruckCounts$Primes" "row" "[J", Cond.constantLong RX1 15 (-1), Cond.constantLong RX1 17 (-2), Cond.constant RX1 23 (50048), Cond.methodLink RL 61 yL_about, Cond.static yL_about, Cond.initialized RL, Cond.codeWith yL_about cL_about 3 (some .int) [(0, 5, 6, 15)], Cond.classLink RL 15 "java/lang/IllegalArgumentException", Cond.methodLink RL 33 yX6_about, Cond.instanceMethod yX6_about, Cond.selects RX6 yX6_about yX6_about, Cond.code yX6_about cX6_about 2 (some .int), Cond.classLink RX6 44 "java/lang/IllegalArgumentException", Cond.initialized "java/lang/IllegalArgumentException", Cond.methodLink RX6 119 yX0_tally, Cond.instanceMethod yX0_tally, Cond.selects RX0 yX0_tally yX0_tally, Cond.code yX0_tally cX0_tally 1 (some (.object "StruckCounts$Tally")), Cond.methodLink RX0 40 yX3_begin, Cond.instanceMethod yX3_begin, Cond.selects RX3 yX3_begin yX3_begin, Cond.code yX3_begin cX3_begin 4 none, Cond.fieldLink RX3 22 "StruckCounts$Tally" "bound" "I"]
def wsL_law0_r5 : List Cond := [Cond.fieldLink RX3 26 "StruckCounts$Tally" "size" "I", Cond.methodLink RX3 33 Lib.Math.max.name, Cond.static Lib.Math.max.name, Cond.initialized "java/lang/Math", Cond.code Lib.Math.max.name Lib.Math.max.code 2 (some .int), Cond.methodLink RX3 29 yX3_fill, Cond.instanceMethod yX3_fill, Cond.selects RX3 yX3_fill yX3_fill, Cond.code yX3_fill cX3_fill 4 none, Cond.constantLong RX3 43 (2), Cond.methodLink RX3 39 yX3_has, Cond.instanceMethod yX3_has, Cond.selects RX3 yX3_has yX3_has, Cond.code yX3_has cX3_has 2 (some .boolean), Cond.methodLink RX0 41 yX0_hasStruck, Cond.instanceMethod yX0_hasStruck, Cond.selects RX0 yX0_hasStruck yX0_hasStruck, Cond.code yX0_hasStruck cX0_hasStruck 2 (some .boolean), Cond.methodLink RX0 45 yX0_primeAt, Cond.instanceMethod yX0_primeAt, Cond.selects RX0 yX0_primeAt yX0_primeAt, Cond.code yX0_primeAt cX0_primeAt 2 (some .int), Cond.methodLink RX0 49 yX3_remove, Cond.instanceMethod yX3_remove]
def wsL_law0_r6 : List Cond := [Cond.selects RX3 yX3_remove yX3_remove, Cond.code yX3_remove cX3_remove 5 none, Cond.methodLink RX3 52 yX3_valueAt, Cond.instanceMethod yX3_valueAt, Cond.selects RX3 yX3_valueAt yX3_valueAt, Cond.code yX3_valueAt cX3_valueAt 2 (some .int), Cond.methodLink RX3 56 yX3_placeOf, Cond.instanceMethod yX3_placeOf, Cond.selects RX3 yX3_placeOf yX3_placeOf, Cond.code yX3_placeOf cX3_placeOf 3 (some .int), Cond.methodLink RX6 132 yJ13_bitCount_95d88, Cond.static yJ13_bitCount_95d88, Cond.initialized RJ13, Cond.code yJ13_bitCount_95d88 cJ13_bitCount_95d88 2 (some .int), Cond.constantLong RJ13 314 (6148914691236517205), Cond.constantLong RJ13 316 (3689348814741910323), Cond.constantLong RJ13 318 (1085102592571150095), Cond.methodLink RX6 141 yX0_countLeft, Cond.instanceMethod yX0_countLeft, Cond.selects RX0 yX0_countLeft yX0_countLeft, Cond.code yX0_countLeft cX0_countLeft 1 (some .int), Cond.methodLink RX0 52 yX0_tally, Cond.methodLink RX0 55 yX3_countAt, Cond.instanceMethod yX3_countAt]
def wsL_law0_r7 : List Cond := [Cond.selects RX3 yX3_countAt yX3_countAt, Cond.code yX3_countAt cX3_countAt 4 (some .int), Cond.methodLink RX3 45 yX3_restAt, Cond.instanceMethod yX3_restAt, Cond.selects RX3 yX3_restAt yX3_restAt, Cond.code yX3_restAt cX3_restAt 3 (some .int), Cond.static yX6_outside, Cond.code yX6_outside cX6_outside 3 (some .boolean), Cond.methodLink RX6 144 yX0_nextPrime, Cond.instanceMethod yX0_nextPrime, Cond.selects RX0 yX0_nextPrime yX0_nextPrime, Cond.code yX0_nextPrime cX0_nextPrime 2 (some .int), Cond.methodLink RX6 147 yX0_primeAt, Cond.methodLink RL 84 yL_undo, Cond.static yL_undo, Cond.codeWith yL_undo cL_undo 2 (some .int) [(0, 4, 5, 22)], Cond.classLink RL 22 "java/lang/IllegalStateException", Cond.methodLink RL 30 yX6_undo, Cond.instanceMethod yX6_undo, Cond.selects RX6 yX6_undo yX6_undo, Cond.code yX6_undo cX6_undo 1 (some .int), Cond.classLink RX6 55 "java/lang/IllegalStateException", Cond.initialized "java/lang/IllegalStateException", Cond.methodLink RX6 200 yX2_takeBack]
def wsL_law0_r8 : List Cond := [Cond.instanceMethod yX2_takeBack, Cond.selects RX2 yX2_takeBack yX2_takeBack, Cond.code yX2_takeBack cX2_takeBack 2 none, Cond.fieldLink RX2 26 "StruckCounts$Store" "newest" "I", Cond.fieldLink RX2 22 "StruckCounts$Store" "remembered" "I", Cond.methodLink RX2 42 Lib.Math.max.name, Cond.methodLink RX2 39 yX2_show, Cond.instanceMethod yX2_show, Cond.selects RX2 yX2_show yX2_show, Cond.code yX2_show cX2_show 3 none, Cond.methodLink RX2 61 yX0_show, Cond.methodLink RL 87 yL_hangs, Cond.static yL_hangs, Cond.code yL_hangs cL_hangs 11 (some .boolean), Cond.methodLink RL 66 yL_quotient, Cond.static yL_quotient, Cond.codeWith yL_quotient cL_quotient 3 (some .int) [(0, 5, 6, 39)], Cond.classLink RL 39 "java/lang/IndexOutOfBoundsException", Cond.methodLink RL 36 yX6_quotient, Cond.instanceMethod yX6_quotient, Cond.selects RX6 yX6_quotient yX6_quotient, Cond.code yX6_quotient cX6_quotient 2 (some .int), Cond.methodLink RX6 153 yX6_checkQuotient, Cond.instanceMethod yX6_checkQuotient]
def wsL_law0_r9 : List Cond := [Cond.selects RX6 yX6_checkQuotient yX6_checkQuotient, Cond.code yX6_checkQuotient cX6_checkQuotient 2 none, Cond.classLink RX6 279 "java/lang/IndexOutOfBoundsException", Cond.initialized "java/lang/IndexOutOfBoundsException", Cond.methodLink RX6 156 yX3_valueAt, Cond.methodLink RL 68 yL_left, Cond.static yL_left, Cond.codeWith yL_left cL_left 3 (some .int) [(0, 5, 6, 39)], Cond.methodLink RL 41 yX6_left, Cond.instanceMethod yX6_left, Cond.selects RX6 yX6_left yX6_left, Cond.code yX6_left cX6_left 2 (some .int), Cond.methodLink RX6 162 yX3_countAt, Cond.methodLink RL 70 yL_sumLeft, Cond.static yL_sumLeft, Cond.codeWith yL_sumLeft cL_sumLeft 3 (some .long) [(0, 5, 6, 39)], Cond.constantLong RL 59 (-2000001), Cond.methodLink RL 55 yX6_sumLeft, Cond.instanceMethod yX6_sumLeft, Cond.selects RX6 yX6_sumLeft yX6_sumLeft, Cond.code yX6_sumLeft cX6_sumLeft 2 (some .long), Cond.methodLink RX6 165 yX3_sumAt, Cond.instanceMethod yX3_sumAt, Cond.selects RX3 yX3_sumAt yX3_sumAt]
def wsL_law0_r10 : List Cond := [Cond.code yX3_sumAt cX3_sumAt 2 (some .long), Cond.methodLink RL 73 yX6_quotientOf, Cond.instanceMethod yX6_quotientOf, Cond.selects RX6 yX6_quotientOf yX6_quotientOf, Cond.code yX6_quotientOf cX6_quotientOf 2 (some .int), Cond.methodLink RX6 159 yX3_placeOf, Cond.methodLink RL 76 yL_restLeft, Cond.static yL_restLeft, Cond.codeWith yL_restLeft cL_restLeft 4 (some .int) [(0, 6, 7, 39), (0, 6, 11, 15)], Cond.methodLink RL 44 yX6_restLeft, Cond.instanceMethod yX6_restLeft, Cond.selects RX6 yX6_restLeft yX6_restLeft, Cond.code yX6_restLeft cX6_restLeft 3 (some .int), Cond.methodLink RX6 40 yX6_outside, Cond.methodLink RX6 171 yX3_restAt, Cond.methodLink RL 79 yL_wouldStrike, Cond.static yL_wouldStrike, Cond.codeWith yL_wouldStrike cL_wouldStrike 3 (some .int) [(0, 5, 6, 39)], Cond.methodLink RL 52 yX6_wouldStrike, Cond.instanceMethod yX6_wouldStrike, Cond.selects RX6 yX6_wouldStrike yX6_wouldStrike, Cond.code yX6_wouldStrike cX6_wouldStrike 3 (some .int), Cond.methodLink RX6 203 yX3_multiplesAt, Cond.instanceMethod yX3_multiplesAt]
def wsL_law0_r11 : List Cond := [Cond.selects RX3 yX3_multiplesAt yX3_multiplesAt, Cond.code yX3_multiplesAt cX3_multiplesAt 3 (some .int), Cond.methodLink RX3 59 yX3_countAt, Cond.methodLink RL 81 yL_came, Cond.static yL_came, Cond.codeWith yL_came cL_came 3 (some .int) [(0, 5, 6, 15)], Cond.methodLink RL 49 yX6_came, Cond.instanceMethod yX6_came, Cond.selects RX6 yX6_came yX6_came, Cond.code yX6_came cX6_came 3 (some .int), Cond.methodLink RX6 176 yX0_hasStruck, Cond.methodLink RL 91 yL_cell, Cond.static yL_cell, Cond.code yL_cell cL_cell 2 (some .int), Cond.constant RL 7 (41843), Cond.constant RL 8 (2147483647), Cond.methodLink RL 95 yL_bound, Cond.static yL_bound, Cond.codeWith yL_bound cL_bound 3 (some .int) [(0, 5, 6, 15)], Cond.methodLink RL 9 yX6_bound, Cond.instanceMethod yX6_bound, Cond.selects RX6 yX6_bound yX6_bound, Cond.code yX6_bound cX6_bound 3 (some .int), Cond.constant RX6 180 (99999)]
def wsL_law0_r12 : List Cond := [Cond.methodLink RX6 183 yX2_remember, Cond.instanceMethod yX2_remember, Cond.selects RX2 yX2_remember yX2_remember, Cond.code yX2_remember cX2_remember 2 none, Cond.methodLink RX2 33 Lib.Math.min.name, Cond.static Lib.Math.min.name, Cond.code Lib.Math.min.name Lib.Math.min.code 2 (some .int), Cond.methodLink RX2 29 yX2_put, Cond.instanceMethod yX2_put, Cond.selects RX2 yX2_put yX2_put, Cond.code yX2_put cX2_put 3 none, Cond.methodLink RX6 73 yX0_begin, Cond.methodLink RL 97 yX6_again, Cond.instanceMethod yX6_again, Cond.selects RX6 yX6_again yX6_again, Cond.code yX6_again cX6_again 2 (some .int), Cond.methodLink RL 100 yL_spare, Cond.static yL_spare, Cond.codeWith yL_spare cL_spare 2 (some .int) [(0, 4, 5, 22)], Cond.methodLink RL 24 yX6_spare, Cond.instanceMethod yX6_spare, Cond.selects RX6 yX6_spare yX6_spare, Cond.code yX6_spare cX6_spare 2 (some .int), Cond.methodLink RX6 187 yX6_checkNextPrime]
def wsL_law0_r13 : List Cond := [Cond.instanceMethod yX6_checkNextPrime, Cond.selects RX6 yX6_checkNextPrime yX6_checkNextPrime, Cond.code yX6_checkNextPrime cX6_checkNextPrime 1 none, Cond.methodLink RX6 115 yX0_letCome, Cond.instanceMethod yX0_letCome, Cond.selects RX0 yX0_letCome yX0_letCome, Cond.code yX0_letCome cX0_letCome 2 (some .boolean), Cond.methodLink RX0 62 yX0_nextPrime, Cond.methodLink RL 102 yL_strikeTo, Cond.static yL_strikeTo, Cond.codeWith yL_strikeTo cL_strikeTo 3 (some .int) [(0, 5, 6, 15)], Cond.methodLink RL 27 yX6_strikeTo, Cond.instanceMethod yX6_strikeTo, Cond.selects RX6 yX6_strikeTo yX6_strikeTo, Cond.code yX6_strikeTo cX6_strikeTo 2 (some .int), Cond.methodLink RX6 192 yX0_letStrikeUpTo, Cond.instanceMethod yX0_letStrikeUpTo, Cond.selects RX0 yX0_letStrikeUpTo yX0_letStrikeUpTo, Cond.code yX0_letStrikeUpTo cX0_letStrikeUpTo 3 (some .int), Cond.methodLink RX0 66 yX0_letCome, Cond.methodLink RL 104 yL_strike, Cond.static yL_strike, Cond.codeWith yL_strike cL_strike 2 (some .int) [(0, 4, 5, 22)], Cond.methodLink RL 18 yX6_strike]
def wsL_law0_r14 : List Cond := [Cond.instanceMethod yX6_strike, Cond.selects RX6 yX6_strike yX6_strike, Cond.code yX6_strike cX6_strike 2 (some .int)]
def wsL_law0 : List Cond := (wsL_law0_r1 ++ (wsL_law0_r2 ++ (wsL_law0_r3 ++ (wsL_law0_r4 ++ (wsL_law0_r5 ++ (wsL_law0_r6 ++ (wsL_law0_r7 ++ (wsL_law0_r8 ++ (wsL_law0_r9 ++ (wsL_law0_r10 ++ (wsL_law0_r11 ++ (wsL_law0_r12 ++ (wsL_law0_r13 ++ wsL_law0_r14))))))))))))) ++ wsX60 ++ wsX40 ++ wsX00 ++ wsX20 ++ wsX10 ++ wsX30 ++ ([] : List Cond)
def wsL_law : List Cond := wsL_law0 ++ (vx_atS RX6 48 "java/lang/IllegalArgumentException" ["java/lang/RuntimeException", "java/lang/Exception"]).filter goodWord ++ (vx_atS RX6 59 "java/lang/IllegalStateException" ["java/lang/RuntimeException", "java/lang/Exception"]).filter goodWord ++ (vx_atS RX6 283 "java/lang/IndexOutOfBoundsException" ["java/lang/RuntimeException", "java/lang/Exception"]).filter goodWord
abbrev vwCl : List vw_C := [(RX0, TX0, 5), (RX1, TX1, 1), (RX2, TX2, 5), (RX3, TX3, 5), (RX4, TX4, 7), (RX6, TX6, 5)]
end
section
set_option maxRecDepth 20000 in
theorem ggX0_init_X3_init : GoodIn wsX0_init wsX3_init := goodIn_r _ [9, 10, 2, 3, 11, 12, 13, 14, 15, 29, 30, 31, 32, 33] (by decide +kernel) (by decide +kernel)
set_option maxRecDepth 20000 in
theorem gX0_init_X3_init_n11 : GoodIn wsX0_init (wsX3_init) := ggX0_init_X3_init
set_option maxRecDepth 20000 in
theorem ggX0_init_X0_begin : GoodIn wsX0_init wsX0_begin := goodIn_r _ [20, 21, 22, 23, 19, 24, 25, 26, 27, 28, 34, 35, 36, 37, 38] (by decide +kernel) (by decide +kernel)
set_option maxRecDepth 20000 in
theorem gX0_init_X0_begin : GoodIn wsX0_init (wsV RX0 18 RX0 yX0_begin wsX0_begin) := goodIn_app (goodIn_of _ (by decide +kernel)) ggX0_init_X0_begin
theorem dX0_init_0 : decode cX0_init 0 = .ok (.aload_n 0, 1) := by decide +kernel
theorem dX0_init_1 : decode cX0_init 1 = .ok (.invokespecial 3, 3) := by decide +kernel
theorem dX0_init_4 : decode cX0_init 4 = .ok (.aload_n 0, 1) := by decide +kernel
theorem dX0_init_5 : decode cX0_init 5 = .ok (.new 9, 3) := by decide +kernel
theorem dX0_init_8 : decode cX0_init 8 = .ok (.dup, 1) := by decide +kernel
theorem dX0_init_9 : decode cX0_init 9 = .ok (.invokespecial 11, 3) := by decide +kernel
theorem dX0_init_12 : decode cX0_init 12 = .ok (.putfield 12, 3) := by decide +kernel
theorem dX0_init_15 : decode cX0_init 15 = .ok (.aload_n 0, 1) := by decide +kernel
theorem dX0_init_16 : decode cX0_init 16 = .ok (.bipush 100, 2) := by decide +kernel
theorem dX0_init_18 : decode cX0_init 18 = .ok (.invokevirtual 18, 3) := by decide +kernel
theorem dX0_init_21 : decode cX0_init 21 = .ok (.return_, 1) := by decide +kernel
set_option maxRecDepth 20000 in
theorem ggX0_begin_X0_show : GoodIn wsX0_begin wsX0_show := goodIn_r _ [5, 6, 7, 8, 9, 10, 11, 12, 13, 14] (by decide +kernel) (by decide +kernel)
set_option maxRecDepth 20000 in
theorem gX0_begin_X0_show : GoodIn wsX0_begin (wsV RX0 22 RX0 yX0_show wsX0_show) := goodIn_app (goodIn_of _ (by decide +kernel)) ggX0_begin_X0_show
theorem dX0_begin_0 : decode cX0_begin 0 = .ok (.aload_n 0, 1) := by decide +kernel
theorem dX0_begin_1 : decode cX0_begin 1 = .ok (.iload_n 1, 1) := by decide +kernel
theorem dX0_begin_2 : decode cX0_begin 2 = .ok (.iconst 0, 1) := by decide +kernel
theorem dX0_begin_3 : decode cX0_begin 3 = .ok (.lconst 0, 1) := by decide +kernel
theorem dX0_begin_4 : decode cX0_begin 4 = .ok (.invokevirtual 22, 3) := by decide +kernel
theorem dX0_begin_7 : decode cX0_begin 7 = .ok (.return_, 1) := by decide +kernel
theorem dX0_show_0 : decode cX0_show 0 = .ok (.aload_n 0, 1) := by decide +kernel
theorem dX0_show_1 : decode cX0_show 1 = .ok (.iload_n 1, 1) := by decide +kernel
theorem dX0_show_2 : decode cX0_show 2 = .ok (.putfield 26, 3) := by decide +kernel
theorem dX0_show_5 : decode cX0_show 5 = .ok (.aload_n 0, 1) := by decide +kernel
theorem dX0_show_6 : decode cX0_show 6 = .ok (.iload_n 2, 1) := by decide +kernel
theorem dX0_show_7 : decode cX0_show 7 = .ok (.putfield 30, 3) := by decide +kernel
theorem dX0_show_10 : decode cX0_show 10 = .ok (.aload_n 0, 1) := by decide +kernel
theorem dX0_show_11 : decode cX0_show 11 = .ok (.lload_n 3, 1) := by decide +kernel
theorem dX0_show_12 : decode cX0_show 12 = .ok (.putfield 33, 3) := by decide +kernel
theorem dX0_show_15 : decode cX0_show 15 = .ok (.aload_n 0, 1) := by decide +kernel
theorem dX0_show_16 : decode cX0_show 16 = .ok (.iconst (-1), 1) := by decide +kernel
theorem dX0_show_17 : decode cX0_show 17 = .ok (.putfield 37, 3) := by decide +kernel
theorem dX0_show_20 : decode cX0_show 20 = .ok (.return_, 1) := by decide +kernel
set_option maxRecDepth 20000 in
theorem ggX0_tally_X3_begin : GoodIn wsX0_tally wsX3_begin := goodIn_r _ [9, 10, 11, 12, 13, 14, 15, 16, 17, 18, 8, 19, 20, 21, 22, 23, 24, 25, 26, 27, 55, 56, 57, 58, 59] (by decide +kernel) (by decide +kernel)
set_option maxRecDepth 20000 in
theorem gX0_tally_X3_begin : GoodIn wsX0_tally (wsV RX0 40 RX3 yX3_begin wsX3_begin) := goodIn_app (goodIn_of _ (by decide +kernel)) ggX0_tally_X3_begin
set_option maxRecDepth 20000 in
theorem ggX0_tally_X0_hasStruck : GoodIn wsX0_tally wsX0_hasStruck := goodIn_r _ [32, 33, 50, 51, 52, 53, 54] (by decide +kernel) (by decide +kernel)
set_option maxRecDepth 20000 in
theorem gX0_tally_X0_hasStruck : GoodIn wsX0_tally (wsV RX0 41 RX0 yX0_hasStruck wsX0_hasStruck) := goodIn_app (goodIn_of _ (by decide +kernel)) ggX0_tally_X0_hasStruck
set_option maxRecDepth 20000 in
theorem ggX0_tally_X0_primeAt : GoodIn wsX0_tally wsX0_primeAt := goodIn_r _ [37] (by decide +kernel) (by decide +kernel)
set_option maxRecDepth 20000 in
theorem gX0_tally_X0_primeAt : GoodIn wsX0_tally (wsV RX0 45 RX0 yX0_primeAt wsX0_primeAt) := goodIn_app (goodIn_of _ (by decide +kernel)) ggX0_tally_X0_primeAt
set_option maxRecDepth 20000 in
theorem ggX0_tally_X3_remove : GoodIn wsX0_tally wsX3_remove := goodIn_r _ [41, 20, 21, 23, 42, 43, 44, 8, 45, 24, 25, 26, 27, 11, 46, 47, 48, 49, 10, 55, 56, 57, 58, 59] (by decide +kernel) (by decide +kernel)
set_option maxRecDepth 20000 in
theorem gX0_tally_X3_remove : GoodIn wsX0_tally (wsV RX0 49 RX3 yX3_remove wsX3_remove) := goodIn_app (goodIn_of _ (by decide +kernel)) ggX0_tally_X3_remove
theorem dX0_tally_0 : decode cX0_tally 0 = .ok (.aload_n 0, 1) := by decide +kernel
theorem dX0_tally_1 : decode cX0_tally 1 = .ok (.getfield 37, 3) := by decide +kernel
theorem dX0_tally_4 : decode cX0_tally 4 = .ok (.iconst (-1), 1) := by decide +kernel
theorem dX0_tally_5 : decode cX0_tally 5 = .ok (.if_icmp .ne 19, 3) := by decide +kernel
theorem dX0_tally_8 : decode cX0_tally 8 = .ok (.aload_n 0, 1) := by decide +kernel
theorem dX0_tally_9 : decode cX0_tally 9 = .ok (.getfield 12, 3) := by decide +kernel
theorem dX0_tally_12 : decode cX0_tally 12 = .ok (.aload_n 0, 1) := by decide +kernel
theorem dX0_tally_13 : decode cX0_tally 13 = .ok (.getfield 26, 3) := by decide +kernel
theorem dX0_tally_16 : decode cX0_tally 16 = .ok (.invokevirtual 40, 3) := by decide +kernel
theorem dX0_tally_19 : decode cX0_tally 19 = .ok (.aload_n 0, 1) := by decide +kernel
theorem dX0_tally_20 : decode cX0_tally 20 = .ok (.iconst 0, 1) := by decide +kernel
theorem dX0_tally_21 : decode cX0_tally 21 = .ok (.putfield 37, 3) := by decide +kernel
theorem dX0_tally_24 : decode cX0_tally 24 = .ok (.aload_n 0, 1) := by decide +kernel
theorem dX0_tally_25 : decode cX0_tally 25 = .ok (.getfield 37, 3) := by decide +kernel
theorem dX0_tally_28 : decode cX0_tally 28 = .ok (.aload_n 0, 1) := by decide +kernel
theorem dX0_tally_29 : decode cX0_tally 29 = .ok (.getfield 30, 3) := by decide +kernel
theorem dX0_tally_32 : decode cX0_tally 32 = .ok (.if_icmp .ge 42, 3) := by decide +kernel
theorem dX0_tally_35 : decode cX0_tally 35 = .ok (.aload_n 0, 1) := by decide +kernel
theorem dX0_tally_36 : decode cX0_tally 36 = .ok (.aload_n 0, 1) := by decide +kernel
theorem dX0_tally_37 : decode cX0_tally 37 = .ok (.getfield 37, 3) := by decide +kernel
theorem dX0_tally_40 : decode cX0_tally 40 = .ok (.invokevirtual 41, 3) := by decide +kernel
theorem dX0_tally_43 : decode cX0_tally 43 = .ok (.ifCond .eq 18, 3) := by decide +kernel
theorem dX0_tally_46 : decode cX0_tally 46 = .ok (.aload_n 0, 1) := by decide +kernel
theorem dX0_tally_47 : decode cX0_tally 47 = .ok (.getfield 12, 3) := by decide +kernel
theorem dX0_tally_50 : decode cX0_tally 50 = .ok (.aload_n 0, 1) := by decide +kernel
theorem dX0_tally_51 : decode cX0_tally 51 = .ok (.aload_n 0, 1) := by decide +kernel
theorem dX0_tally_52 : decode cX0_tally 52 = .ok (.getfield 37, 3) := by decide +kernel
theorem dX0_tally_55 : decode cX0_tally 55 = .ok (.invokevirtual 45, 3) := by decide +kernel
theorem dX0_tally_58 : decode cX0_tally 58 = .ok (.invokevirtual 49, 3) := by decide +kernel
theorem dX0_tally_61 : decode cX0_tally 61 = .ok (.aload_n 0, 1) := by decide +kernel
theorem dX0_tally_62 : decode cX0_tally 62 = .ok (.dup, 1) := by decide +kernel
theorem dX0_tally_63 : decode cX0_tally 63 = .ok (.getfield 37, 3) := by decide +kernel
theorem dX0_tally_66 : decode cX0_tally 66 = .ok (.iconst 1, 1) := by decide +kernel
theorem dX0_tally_67 : decode cX0_tally 67 = .ok (.iadd, 1) := by decide +kernel
theorem dX0_tally_68 : decode cX0_tally 68 = .ok (.putfield 37, 3) := by decide +kernel
theorem dX0_tally_71 : decode cX0_tally 71 = .ok (.goto (-47), 3) := by decide +kernel
theorem dX0_tally_74 : decode cX0_tally 74 = .ok (.aload_n 0, 1) := by decide +kernel
theorem dX0_tally_75 : decode cX0_tally 75 = .ok (.getfield 12, 3) := by decide +kernel
theorem dX0_tally_78 : decode cX0_tally 78 = .ok (.areturn, 1) := by decide +kernel
set_option maxRecDepth 20000 in
theorem ggX0_countLeft_X0_tally : GoodIn wsX0_countLeft wsX0_tally := goodIn_r _ [5, 6, 7, 8, 9, 10, 11, 12, 13, 14, 15, 16, 17, 18, 19, 20, 21, 22, 23, 24, 25, 26, 27, 28, 29, 30, 31, 32, 33, 34, 35, 4, 36, 37, 38, 39, 40, 41, 42, 43, 44, 45, 46, 47, 48, 49, 50, 51, 52, 53, 65, 66, 67, 68, 69, 70, 71, 72, 73, 74] (by decide +kernel) (by decide +kernel)
set_option maxRecDepth 20000 in
theorem gX0_countLeft_X0_tally : GoodIn wsX0_countLeft (wsV RX0 52 RX0 yX0_tally wsX0_tally) := goodIn_app (goodIn_of _ (by decide +kernel)) ggX0_countLeft_X0_tally
set_option maxRecDepth 20000 in
theorem ggX0_countLeft_X3_countAt : GoodIn wsX0_countLeft wsX3_countAt := goodIn_r _ [57, 58, 59, 60, 13, 61, 28, 29, 30, 31, 32, 16, 62, 63, 64, 70, 71, 72, 73, 74] (by decide +kernel) (by decide +kernel)
set_option maxRecDepth 20000 in
theorem gX0_countLeft_X3_countAt : GoodIn wsX0_countLeft (wsV RX0 55 RX3 yX3_countAt wsX3_countAt) := goodIn_app (goodIn_of _ (by decide +kernel)) ggX0_countLeft_X3_countAt
theorem dX0_countLeft_0 : decode cX0_countLeft 0 = .ok (.aload_n 0, 1) := by decide +kernel
theorem dX0_countLeft_1 : decode cX0_countLeft 1 = .ok (.invokevirtual 52, 3) := by decide +kernel
theorem dX0_countLeft_4 : decode cX0_countLeft 4 = .ok (.iconst 0, 1) := by decide +kernel
theorem dX0_countLeft_5 : decode cX0_countLeft 5 = .ok (.invokevirtual 55, 3) := by decide +kernel
theorem dX0_countLeft_8 : decode cX0_countLeft 8 = .ok (.ireturn, 1) := by decide +kernel
theorem dX0_primeAt_0 : decode cX0_primeAt 0 = .ok (.iload_n 1, 1) := by decide +kernel
theorem dX0_primeAt_1 : decode cX0_primeAt 1 = .ok (.ifCond .lt 9, 3) := by decide +kernel
theorem dX0_primeAt_4 : decode cX0_primeAt 4 = .ok (.iload_n 1, 1) := by decide +kernel
theorem dX0_primeAt_5 : decode cX0_primeAt 5 = .ok (.bipush 40, 2) := by decide +kernel
theorem dX0_primeAt_7 : decode cX0_primeAt 7 = .ok (.if_icmp .lt 7, 3) := by decide +kernel
theorem dX0_primeAt_10 : decode cX0_primeAt 10 = .ok (.iconst (-1), 1) := by decide +kernel
theorem dX0_primeAt_11 : decode cX0_primeAt 11 = .ok (.goto 8, 3) := by decide +kernel
theorem dX0_primeAt_14 : decode cX0_primeAt 14 = .ok (.getstatic 58, 3) := by decide +kernel
theorem dX0_primeAt_17 : decode cX0_primeAt 17 = .ok (.iload_n 1, 1) := by decide +kernel
theorem dX0_primeAt_18 : decode cX0_primeAt 18 = .ok (.iaload, 1) := by decide +kernel
theorem dX0_primeAt_19 : decode cX0_primeAt 19 = .ok (.ireturn, 1) := by decide +kernel
theorem dX0_hasStruck_0 : decode cX0_hasStruck 0 = .ok (.aload_n 0, 1) := by decide +kernel
theorem dX0_hasStruck_1 : decode cX0_hasStruck 1 = .ok (.getfield 33, 3) := by decide +kernel
theorem dX0_hasStruck_4 : decode cX0_hasStruck 4 = .ok (.iload_n 1, 1) := by decide +kernel
theorem dX0_hasStruck_5 : decode cX0_hasStruck 5 = .ok (.lushr, 1) := by decide +kernel
theorem dX0_hasStruck_6 : decode cX0_hasStruck 6 = .ok (.lconst 1, 1) := by decide +kernel
theorem dX0_hasStruck_7 : decode cX0_hasStruck 7 = .ok (.land, 1) := by decide +kernel
theorem dX0_hasStruck_8 : decode cX0_hasStruck 8 = .ok (.lconst 0, 1) := by decide +kernel
theorem dX0_hasStruck_9 : decode cX0_hasStruck 9 = .ok (.lcmp, 1) := by decide +kernel
theorem dX0_hasStruck_10 : decode cX0_hasStruck 10 = .ok (.ifCond .eq 7, 3) := by decide +kernel
theorem dX0_hasStruck_13 : decode cX0_hasStruck 13 = .ok (.iconst 1, 1) := by decide +kernel
theorem dX0_hasStruck_14 : decode cX0_hasStruck 14 = .ok (.goto 4, 3) := by decide +kernel
theorem dX0_hasStruck_17 : decode cX0_hasStruck 17 = .ok (.iconst 0, 1) := by decide +kernel
theorem dX0_hasStruck_18 : decode cX0_hasStruck 18 = .ok (.ireturn, 1) := by decide +kernel
set_option maxRecDepth 20000 in
theorem ggX0_nextPrime_X0_primeAt : GoodIn wsX0_nextPrime wsX0_primeAt := goodIn_r _ [7] (by decide +kernel) (by decide +kernel)
set_option maxRecDepth 20000 in
theorem gX0_nextPrime_X0_primeAt : GoodIn wsX0_nextPrime (wsV RX0 45 RX0 yX0_primeAt wsX0_primeAt) := goodIn_app (goodIn_of _ (by decide +kernel)) ggX0_nextPrime_X0_primeAt
theorem dX0_nextPrime_0 : decode cX0_nextPrime 0 = .ok (.aload_n 0, 1) := by decide +kernel
theorem dX0_nextPrime_1 : decode cX0_nextPrime 1 = .ok (.aload_n 0, 1) := by decide +kernel
theorem dX0_nextPrime_2 : decode cX0_nextPrime 2 = .ok (.getfield 30, 3) := by decide +kernel
theorem dX0_nextPrime_5 : decode cX0_nextPrime 5 = .ok (.invokevirtual 45, 3) := by decide +kernel
theorem dX0_nextPrime_8 : decode cX0_nextPrime 8 = .ok (.istore_n 1, 1) := by decide +kernel
theorem dX0_nextPrime_9 : decode cX0_nextPrime 9 = .ok (.iload_n 1, 1) := by decide +kernel
theorem dX0_nextPrime_10 : decode cX0_nextPrime 10 = .ok (.aload_n 0, 1) := by decide +kernel
theorem dX0_nextPrime_11 : decode cX0_nextPrime 11 = .ok (.getfield 26, 3) := by decide +kernel
theorem dX0_nextPrime_14 : decode cX0_nextPrime 14 = .ok (.if_icmp .le 7, 3) := by decide +kernel
theorem dX0_nextPrime_17 : decode cX0_nextPrime 17 = .ok (.iconst (-1), 1) := by decide +kernel
theorem dX0_nextPrime_18 : decode cX0_nextPrime 18 = .ok (.goto 4, 3) := by decide +kernel
theorem dX0_nextPrime_21 : decode cX0_nextPrime 21 = .ok (.iload_n 1, 1) := by decide +kernel
theorem dX0_nextPrime_22 : decode cX0_nextPrime 22 = .ok (.ireturn, 1) := by decide +kernel
set_option maxRecDepth 20000 in
theorem ggX0_letCome_X0_nextPrime : GoodIn wsX0_letCome wsX0_nextPrime := goodIn_r _ [7, 2, 8, 9, 10, 11, 6, 12, 13, 14, 15, 16, 17] (by decide +kernel) (by decide +kernel)
set_option maxRecDepth 20000 in
theorem gX0_letCome_X0_nextPrime : GoodIn wsX0_letCome (wsV RX0 62 RX0 yX0_nextPrime wsX0_nextPrime) := goodIn_app (goodIn_of _ (by decide +kernel)) ggX0_letCome_X0_nextPrime
theorem dX0_letCome_0 : decode cX0_letCome 0 = .ok (.aload_n 0, 1) := by decide +kernel
theorem dX0_letCome_1 : decode cX0_letCome 1 = .ok (.invokevirtual 62, 3) := by decide +kernel
theorem dX0_letCome_4 : decode cX0_letCome 4 = .ok (.iconst (-1), 1) := by decide +kernel
theorem dX0_letCome_5 : decode cX0_letCome 5 = .ok (.if_icmp .ne 5, 3) := by decide +kernel
theorem dX0_letCome_8 : decode cX0_letCome 8 = .ok (.iconst 0, 1) := by decide +kernel
theorem dX0_letCome_9 : decode cX0_letCome 9 = .ok (.ireturn, 1) := by decide +kernel
theorem dX0_letCome_10 : decode cX0_letCome 10 = .ok (.iload_n 1, 1) := by decide +kernel
theorem dX0_letCome_11 : decode cX0_letCome 11 = .ok (.ifCond .eq 18, 3) := by decide +kernel
theorem dX0_letCome_14 : decode cX0_letCome 14 = .ok (.aload_n 0, 1) := by decide +kernel
theorem dX0_letCome_15 : decode cX0_letCome 15 = .ok (.dup, 1) := by decide +kernel
theorem dX0_letCome_16 : decode cX0_letCome 16 = .ok (.getfield 33, 3) := by decide +kernel
theorem dX0_letCome_19 : decode cX0_letCome 19 = .ok (.lconst 1, 1) := by decide +kernel
theorem dX0_letCome_20 : decode cX0_letCome 20 = .ok (.aload_n 0, 1) := by decide +kernel
theorem dX0_letCome_21 : decode cX0_letCome 21 = .ok (.getfield 30, 3) := by decide +kernel
theorem dX0_letCome_24 : decode cX0_letCome 24 = .ok (.lshl, 1) := by decide +kernel
theorem dX0_letCome_25 : decode cX0_letCome 25 = .ok (.lor, 1) := by decide +kernel
theorem dX0_letCome_26 : decode cX0_letCome 26 = .ok (.putfield 33, 3) := by decide +kernel
theorem dX0_letCome_29 : decode cX0_letCome 29 = .ok (.aload_n 0, 1) := by decide +kernel
theorem dX0_letCome_30 : decode cX0_letCome 30 = .ok (.dup, 1) := by decide +kernel
theorem dX0_letCome_31 : decode cX0_letCome 31 = .ok (.getfield 30, 3) := by decide +kernel
theorem dX0_letCome_34 : decode cX0_letCome 34 = .ok (.iconst 1, 1) := by decide +kernel
theorem dX0_letCome_35 : decode cX0_letCome 35 = .ok (.iadd, 1) := by decide +kernel
theorem dX0_letCome_36 : decode cX0_letCome 36 = .ok (.putfield 30, 3) := by decide +kernel
theorem dX0_letCome_39 : decode cX0_letCome 39 = .ok (.iconst 1, 1) := by decide +kernel
theorem dX0_letCome_40 : decode cX0_letCome 40 = .ok (.ireturn, 1) := by decide +kernel
set_option maxRecDepth 20000 in
theorem ggX0_letStrikeUpTo_X0_nextPrime : GoodIn wsX0_letStrikeUpTo wsX0_nextPrime := goodIn_r _ [5, 6, 7, 8, 9, 10, 4, 11, 17, 18, 19, 20, 21] (by decide +kernel) (by decide +kernel)
set_option maxRecDepth 20000 in
theorem gX0_letStrikeUpTo_X0_nextPrime : GoodIn wsX0_letStrikeUpTo (wsV RX0 62 RX0 yX0_nextPrime wsX0_nextPrime) := goodIn_app (goodIn_of _ (by decide +kernel)) ggX0_letStrikeUpTo_X0_nextPrime
set_option maxRecDepth 20000 in
theorem ggX0_letStrikeUpTo_X0_letCome : GoodIn wsX0_letStrikeUpTo wsX0_letCome := goodIn_r _ [15, 16, 6, 1, 2, 3, 4, 5, 7, 8, 9, 10, 11, 17, 18, 19, 20, 21] (by decide +kernel) (by decide +kernel)
set_option maxRecDepth 20000 in
theorem gX0_letStrikeUpTo_X0_letCome : GoodIn wsX0_letStrikeUpTo (wsV RX0 66 RX0 yX0_letCome wsX0_letCome) := goodIn_app (goodIn_of _ (by decide +kernel)) ggX0_letStrikeUpTo_X0_letCome
theorem dX0_letStrikeUpTo_0 : decode cX0_letStrikeUpTo 0 = .ok (.iconst 0, 1) := by decide +kernel
theorem dX0_letStrikeUpTo_1 : decode cX0_letStrikeUpTo 1 = .ok (.istore_n 2, 1) := by decide +kernel
theorem dX0_letStrikeUpTo_2 : decode cX0_letStrikeUpTo 2 = .ok (.iload_n 2, 1) := by decide +kernel
theorem dX0_letStrikeUpTo_3 : decode cX0_letStrikeUpTo 3 = .ok (.bipush 40, 2) := by decide +kernel
theorem dX0_letStrikeUpTo_5 : decode cX0_letStrikeUpTo 5 = .ok (.if_icmp .ge 25, 3) := by decide +kernel
theorem dX0_letStrikeUpTo_8 : decode cX0_letStrikeUpTo 8 = .ok (.aload_n 0, 1) := by decide +kernel
theorem dX0_letStrikeUpTo_9 : decode cX0_letStrikeUpTo 9 = .ok (.invokevirtual 62, 3) := by decide +kernel
theorem dX0_letStrikeUpTo_12 : decode cX0_letStrikeUpTo 12 = .ok (.iload_n 1, 1) := by decide +kernel
theorem dX0_letStrikeUpTo_13 : decode cX0_letStrikeUpTo 13 = .ok (.if_icmp .gt 17, 3) := by decide +kernel
theorem dX0_letStrikeUpTo_16 : decode cX0_letStrikeUpTo 16 = .ok (.aload_n 0, 1) := by decide +kernel
theorem dX0_letStrikeUpTo_17 : decode cX0_letStrikeUpTo 17 = .ok (.iconst 1, 1) := by decide +kernel
theorem dX0_letStrikeUpTo_18 : decode cX0_letStrikeUpTo 18 = .ok (.invokevirtual 66, 3) := by decide +kernel
theorem dX0_letStrikeUpTo_21 : decode cX0_letStrikeUpTo 21 = .ok (.ifCond .eq 9, 3) := by decide +kernel
theorem dX0_letStrikeUpTo_24 : decode cX0_letStrikeUpTo 24 = .ok (.iinc 2 1, 3) := by decide +kernel
theorem dX0_letStrikeUpTo_27 : decode cX0_letStrikeUpTo 27 = .ok (.goto (-25), 3) := by decide +kernel
theorem dX0_letStrikeUpTo_30 : decode cX0_letStrikeUpTo 30 = .ok (.iload_n 2, 1) := by decide +kernel
theorem dX0_letStrikeUpTo_31 : decode cX0_letStrikeUpTo 31 = .ok (.ireturn, 1) := by decide +kernel
theorem dX1_init_0 : decode cX1_init 0 = .ok (.aload_n 0, 1) := by decide +kernel
theorem dX1_init_1 : decode cX1_init 1 = .ok (.invokespecial 5, 3) := by decide +kernel
theorem dX1_init_4 : decode cX1_init 4 = .ok (.aload_n 0, 1) := by decide +kernel
theorem dX1_init_5 : decode cX1_init 5 = .ok (.sipush 782, 3) := by decide +kernel
theorem dX1_init_8 : decode cX1_init 8 = .ok (.newarray .long, 2) := by decide +kernel
theorem dX1_init_10 : decode cX1_init 10 = .ok (.putfield 11, 3) := by decide +kernel
theorem dX1_init_13 : decode cX1_init 13 = .ok (.iconst 0, 1) := by decide +kernel
theorem dX1_init_14 : decode cX1_init 14 = .ok (.istore_n 1, 1) := by decide +kernel
theorem dX1_init_15 : decode cX1_init 15 = .ok (.iload_n 1, 1) := by decide +kernel
theorem dX1_init_16 : decode cX1_init 16 = .ok (.sipush 782, 3) := by decide +kernel
theorem dX1_init_19 : decode cX1_init 19 = .ok (.if_icmp .ge 18, 3) := by decide +kernel
theorem dX1_init_22 : decode cX1_init 22 = .ok (.aload_n 0, 1) := by decide +kernel
theorem dX1_init_23 : decode cX1_init 23 = .ok (.getfield 11, 3) := by decide +kernel
theorem dX1_init_26 : decode cX1_init 26 = .ok (.iload_n 1, 1) := by decide +kernel
theorem dX1_init_27 : decode cX1_init 27 = .ok (.ldc2_w 15, 3) := by decide +kernel
theorem dX1_init_30 : decode cX1_init 30 = .ok (.lastore, 1) := by decide +kernel
theorem dX1_init_31 : decode cX1_init 31 = .ok (.iinc 1 1, 3) := by decide +kernel
theorem dX1_init_34 : decode cX1_init 34 = .ok (.goto (-19), 3) := by decide +kernel
theorem dX1_init_37 : decode cX1_init 37 = .ok (.aload_n 0, 1) := by decide +kernel
theorem dX1_init_38 : decode cX1_init 38 = .ok (.getfield 11, 3) := by decide +kernel
theorem dX1_init_41 : decode cX1_init 41 = .ok (.iconst 0, 1) := by decide +kernel
theorem dX1_init_42 : decode cX1_init 42 = .ok (.dup2, 1) := by decide +kernel
theorem dX1_init_43 : decode cX1_init 43 = .ok (.laload, 1) := by decide +kernel
theorem dX1_init_44 : decode cX1_init 44 = .ok (.ldc2_w 17, 3) := by decide +kernel
theorem dX1_init_47 : decode cX1_init 47 = .ok (.land, 1) := by decide +kernel
theorem dX1_init_48 : decode cX1_init 48 = .ok (.lastore, 1) := by decide +kernel
theorem dX1_init_49 : decode cX1_init 49 = .ok (.getstatic 19, 3) := by decide +kernel
theorem dX1_init_52 : decode cX1_init 52 = .ok (.astore_n 1, 1) := by decide +kernel
theorem dX1_init_53 : decode cX1_init 53 = .ok (.aload_n 1, 1) := by decide +kernel
theorem dX1_init_54 : decode cX1_init 54 = .ok (.arraylength, 1) := by decide +kernel
theorem dX1_init_55 : decode cX1_init 55 = .ok (.istore_n 2, 1) := by decide +kernel
theorem dX1_init_56 : decode cX1_init 56 = .ok (.iconst 0, 1) := by decide +kernel
theorem dX1_init_57 : decode cX1_init 57 = .ok (.istore_n 3, 1) := by decide +kernel
theorem dX1_init_58 : decode cX1_init 58 = .ok (.iload_n 3, 1) := by decide +kernel
theorem dX1_init_59 : decode cX1_init 59 = .ok (.iload_n 2, 1) := by decide +kernel
theorem dX1_init_60 : decode cX1_init 60 = .ok (.if_icmp .ge 70, 3) := by decide +kernel
theorem dX1_init_63 : decode cX1_init 63 = .ok (.aload_n 1, 1) := by decide +kernel
theorem dX1_init_64 : decode cX1_init 64 = .ok (.iload_n 3, 1) := by decide +kernel
theorem dX1_init_65 : decode cX1_init 65 = .ok (.iaload, 1) := by decide +kernel
theorem dX1_init_66 : decode cX1_init 66 = .ok (.istore 4, 2) := by decide +kernel
theorem dX1_init_68 : decode cX1_init 68 = .ok (.iload 4, 2) := by decide +kernel
theorem dX1_init_70 : decode cX1_init 70 = .ok (.iload 4, 2) := by decide +kernel
theorem dX1_init_72 : decode cX1_init 72 = .ok (.imul, 1) := by decide +kernel
theorem dX1_init_73 : decode cX1_init 73 = .ok (.iconst 2, 1) := by decide +kernel
theorem dX1_init_74 : decode cX1_init 74 = .ok (.idiv, 1) := by decide +kernel
theorem dX1_init_75 : decode cX1_init 75 = .ok (.istore 5, 2) := by decide +kernel
theorem dX1_init_77 : decode cX1_init 77 = .ok (.iload 4, 2) := by decide +kernel
theorem dX1_init_79 : decode cX1_init 79 = .ok (.iconst 2, 1) := by decide +kernel
theorem dX1_init_80 : decode cX1_init 80 = .ok (.if_icmp .le 44, 3) := by decide +kernel
theorem dX1_init_83 : decode cX1_init 83 = .ok (.iload 5, 2) := by decide +kernel
theorem dX1_init_85 : decode cX1_init 85 = .ok (.ldc 23, 2) := by decide +kernel
theorem dX1_init_87 : decode cX1_init 87 = .ok (.if_icmp .ge 37, 3) := by decide +kernel
theorem dX1_init_90 : decode cX1_init 90 = .ok (.aload_n 0, 1) := by decide +kernel
theorem dX1_init_91 : decode cX1_init 91 = .ok (.getfield 11, 3) := by decide +kernel
theorem dX1_init_94 : decode cX1_init 94 = .ok (.iload 5, 2) := by decide +kernel
theorem dX1_init_96 : decode cX1_init 96 = .ok (.bipush 64, 2) := by decide +kernel
theorem dX1_init_98 : decode cX1_init 98 = .ok (.idiv, 1) := by decide +kernel
theorem dX1_init_99 : decode cX1_init 99 = .ok (.dup2, 1) := by decide +kernel
theorem dX1_init_100 : decode cX1_init 100 = .ok (.laload, 1) := by decide +kernel
theorem dX1_init_101 : decode cX1_init 101 = .ok (.lconst 1, 1) := by decide +kernel
theorem dX1_init_102 : decode cX1_init 102 = .ok (.iload 5, 2) := by decide +kernel
theorem dX1_init_104 : decode cX1_init 104 = .ok (.bipush 64, 2) := by decide +kernel
theorem dX1_init_106 : decode cX1_init 106 = .ok (.irem, 1) := by decide +kernel
theorem dX1_init_107 : decode cX1_init 107 = .ok (.lshl, 1) := by decide +kernel
theorem dX1_init_108 : decode cX1_init 108 = .ok (.ldc2_w 15, 3) := by decide +kernel
theorem dX1_init_111 : decode cX1_init 111 = .ok (.lxor, 1) := by decide +kernel
theorem dX1_init_112 : decode cX1_init 112 = .ok (.land, 1) := by decide +kernel
theorem dX1_init_113 : decode cX1_init 113 = .ok (.lastore, 1) := by decide +kernel
theorem dX1_init_114 : decode cX1_init 114 = .ok (.iload 5, 2) := by decide +kernel
theorem dX1_init_116 : decode cX1_init 116 = .ok (.iload 4, 2) := by decide +kernel
theorem dX1_init_118 : decode cX1_init 118 = .ok (.iadd, 1) := by decide +kernel
theorem dX1_init_119 : decode cX1_init 119 = .ok (.istore 5, 2) := by decide +kernel
theorem dX1_init_121 : decode cX1_init 121 = .ok (.goto (-44), 3) := by decide +kernel
theorem dX1_init_124 : decode cX1_init 124 = .ok (.iinc 3 1, 3) := by decide +kernel
theorem dX1_init_127 : decode cX1_init 127 = .ok (.goto (-69), 3) := by decide +kernel
theorem dX1_init_130 : decode cX1_init 130 = .ok (.return_, 1) := by decide +kernel
theorem dX2_init_0 : decode cX2_init 0 = .ok (.aload_n 0, 1) := by decide +kernel
theorem dX2_init_1 : decode cX2_init 1 = .ok (.invokespecial 3, 3) := by decide +kernel
theorem dX2_init_4 : decode cX2_init 4 = .ok (.aload_n 0, 1) := by decide +kernel
theorem dX2_init_5 : decode cX2_init 5 = .ok (.bipush 16, 2) := by decide +kernel
theorem dX2_init_7 : decode cX2_init 7 = .ok (.newarray .int, 2) := by decide +kernel
theorem dX2_init_9 : decode cX2_init 9 = .ok (.putfield 11, 3) := by decide +kernel
theorem dX2_init_12 : decode cX2_init 12 = .ok (.aload_n 0, 1) := by decide +kernel
theorem dX2_init_13 : decode cX2_init 13 = .ok (.bipush 16, 2) := by decide +kernel
theorem dX2_init_15 : decode cX2_init 15 = .ok (.newarray .int, 2) := by decide +kernel
theorem dX2_init_17 : decode cX2_init 17 = .ok (.putfield 15, 3) := by decide +kernel
theorem dX2_init_20 : decode cX2_init 20 = .ok (.aload_n 0, 1) := by decide +kernel
theorem dX2_init_21 : decode cX2_init 21 = .ok (.bipush 16, 2) := by decide +kernel
theorem dX2_init_23 : decode cX2_init 23 = .ok (.newarray .long, 2) := by decide +kernel
theorem dX2_init_25 : decode cX2_init 25 = .ok (.putfield 18, 3) := by decide +kernel
theorem dX2_init_28 : decode cX2_init 28 = .ok (.return_, 1) := by decide +kernel
set_option maxRecDepth 20000 in
theorem ggX2_remember_X2_put : GoodIn wsX2_remember wsX2_put := goodIn_r _ [11, 12, 13, 14, 15, 16, 17, 18, 19, 20, 21, 22, 23, 24, 25, 26, 27] (by decide +kernel) (by decide +kernel)
set_option maxRecDepth 20000 in
theorem gX2_remember_X2_put : GoodIn wsX2_remember (wsV RX2 29 RX2 yX2_put wsX2_put) := goodIn_app (goodIn_of _ (by decide +kernel)) ggX2_remember_X2_put
theorem dX2_remember_0 : decode cX2_remember 0 = .ok (.aload_n 0, 1) := by decide +kernel
theorem dX2_remember_1 : decode cX2_remember 1 = .ok (.aload_n 0, 1) := by decide +kernel
theorem dX2_remember_2 : decode cX2_remember 2 = .ok (.getfield 26, 3) := by decide +kernel
theorem dX2_remember_5 : decode cX2_remember 5 = .ok (.iconst 1, 1) := by decide +kernel
theorem dX2_remember_6 : decode cX2_remember 6 = .ok (.iadd, 1) := by decide +kernel
theorem dX2_remember_7 : decode cX2_remember 7 = .ok (.bipush 14, 2) := by decide +kernel
theorem dX2_remember_9 : decode cX2_remember 9 = .ok (.irem, 1) := by decide +kernel
theorem dX2_remember_10 : decode cX2_remember 10 = .ok (.putfield 26, 3) := by decide +kernel
theorem dX2_remember_13 : decode cX2_remember 13 = .ok (.aload_n 0, 1) := by decide +kernel
theorem dX2_remember_14 : decode cX2_remember 14 = .ok (.aload_n 0, 1) := by decide +kernel
theorem dX2_remember_15 : decode cX2_remember 15 = .ok (.getfield 26, 3) := by decide +kernel
theorem dX2_remember_18 : decode cX2_remember 18 = .ok (.aload_n 1, 1) := by decide +kernel
theorem dX2_remember_19 : decode cX2_remember 19 = .ok (.invokevirtual 29, 3) := by decide +kernel
theorem dX2_remember_22 : decode cX2_remember 22 = .ok (.aload_n 0, 1) := by decide +kernel
theorem dX2_remember_23 : decode cX2_remember 23 = .ok (.aload_n 0, 1) := by decide +kernel
theorem dX2_remember_24 : decode cX2_remember 24 = .ok (.getfield 22, 3) := by decide +kernel
theorem dX2_remember_27 : decode cX2_remember 27 = .ok (.iconst 1, 1) := by decide +kernel
theorem dX2_remember_28 : decode cX2_remember 28 = .ok (.iadd, 1) := by decide +kernel
theorem dX2_remember_29 : decode cX2_remember 29 = .ok (.bipush 14, 2) := by decide +kernel
theorem dX2_remember_31 : decode cX2_remember 31 = .ok (.invokestatic 33, 3) := by decide +kernel
theorem dX2_remember_34 : decode cX2_remember 34 = .ok (.putfield 22, 3) := by decide +kernel
theorem dX2_remember_37 : decode cX2_remember 37 = .ok (.return_, 1) := by decide +kernel
set_option maxRecDepth 20000 in
theorem ggX2_takeBack_X2_show : GoodIn wsX2_takeBack wsX2_show := goodIn_r _ [11, 12, 13, 14, 15, 16, 17, 18, 19, 20, 21, 22, 23, 24, 25, 26, 27, 28, 29, 30, 31, 32, 33, 34, 35, 36] (by decide +kernel) (by decide +kernel)
set_option maxRecDepth 20000 in
theorem gX2_takeBack_X2_show : GoodIn wsX2_takeBack (wsV RX2 39 RX2 yX2_show wsX2_show) := goodIn_app (goodIn_of _ (by decide +kernel)) ggX2_takeBack_X2_show
theorem dX2_takeBack_0 : decode cX2_takeBack 0 = .ok (.aload_n 0, 1) := by decide +kernel
theorem dX2_takeBack_1 : decode cX2_takeBack 1 = .ok (.aload_n 0, 1) := by decide +kernel
theorem dX2_takeBack_2 : decode cX2_takeBack 2 = .ok (.getfield 26, 3) := by decide +kernel
theorem dX2_takeBack_5 : decode cX2_takeBack 5 = .ok (.aload_n 1, 1) := by decide +kernel
theorem dX2_takeBack_6 : decode cX2_takeBack 6 = .ok (.invokevirtual 39, 3) := by decide +kernel
theorem dX2_takeBack_9 : decode cX2_takeBack 9 = .ok (.aload_n 0, 1) := by decide +kernel
theorem dX2_takeBack_10 : decode cX2_takeBack 10 = .ok (.aload_n 0, 1) := by decide +kernel
theorem dX2_takeBack_11 : decode cX2_takeBack 11 = .ok (.getfield 26, 3) := by decide +kernel
theorem dX2_takeBack_14 : decode cX2_takeBack 14 = .ok (.bipush 14, 2) := by decide +kernel
theorem dX2_takeBack_16 : decode cX2_takeBack 16 = .ok (.iadd, 1) := by decide +kernel
theorem dX2_takeBack_17 : decode cX2_takeBack 17 = .ok (.iconst 1, 1) := by decide +kernel
theorem dX2_takeBack_18 : decode cX2_takeBack 18 = .ok (.isub, 1) := by decide +kernel
theorem dX2_takeBack_19 : decode cX2_takeBack 19 = .ok (.bipush 14, 2) := by decide +kernel
theorem dX2_takeBack_21 : decode cX2_takeBack 21 = .ok (.irem, 1) := by decide +kernel
theorem dX2_takeBack_22 : decode cX2_takeBack 22 = .ok (.putfield 26, 3) := by decide +kernel
theorem dX2_takeBack_25 : decode cX2_takeBack 25 = .ok (.aload_n 0, 1) := by decide +kernel
theorem dX2_takeBack_26 : decode cX2_takeBack 26 = .ok (.aload_n 0, 1) := by decide +kernel
theorem dX2_takeBack_27 : decode cX2_takeBack 27 = .ok (.getfield 22, 3) := by decide +kernel
theorem dX2_takeBack_30 : decode cX2_takeBack 30 = .ok (.iconst 1, 1) := by decide +kernel
theorem dX2_takeBack_31 : decode cX2_takeBack 31 = .ok (.isub, 1) := by decide +kernel
theorem dX2_takeBack_32 : decode cX2_takeBack 32 = .ok (.iconst 0, 1) := by decide +kernel
theorem dX2_takeBack_33 : decode cX2_takeBack 33 = .ok (.invokestatic 42, 3) := by decide +kernel
theorem dX2_takeBack_36 : decode cX2_takeBack 36 = .ok (.putfield 22, 3) := by decide +kernel
theorem dX2_takeBack_39 : decode cX2_takeBack 39 = .ok (.return_, 1) := by decide +kernel
set_option maxRecDepth 20000 in
theorem ggX2_put_X6_outside : GoodIn wsX2_put wsX6_outside := goodIn_r _ [6] (by decide +kernel) (by decide +kernel)
set_option maxRecDepth 20000 in
theorem gX2_put_X6_outside_n45 : GoodIn wsX2_put (wsX6_outside) := ggX2_put_X6_outside
theorem dX2_put_0 : decode cX2_put 0 = .ok (.iload_n 1, 1) := by decide +kernel
theorem dX2_put_1 : decode cX2_put 1 = .ok (.iconst 0, 1) := by decide +kernel
theorem dX2_put_2 : decode cX2_put 2 = .ok (.bipush 15, 2) := by decide +kernel
theorem dX2_put_4 : decode cX2_put 4 = .ok (.invokestatic 45, 3) := by decide +kernel
theorem dX2_put_7 : decode cX2_put 7 = .ok (.ifCond .ne 33, 3) := by decide +kernel
theorem dX2_put_10 : decode cX2_put 10 = .ok (.aload_n 0, 1) := by decide +kernel
theorem dX2_put_11 : decode cX2_put 11 = .ok (.getfield 11, 3) := by decide +kernel
theorem dX2_put_14 : decode cX2_put 14 = .ok (.iload_n 1, 1) := by decide +kernel
theorem dX2_put_15 : decode cX2_put 15 = .ok (.aload_n 2, 1) := by decide +kernel
theorem dX2_put_16 : decode cX2_put 16 = .ok (.getfield 49, 3) := by decide +kernel
theorem dX2_put_19 : decode cX2_put 19 = .ok (.iastore, 1) := by decide +kernel
theorem dX2_put_20 : decode cX2_put 20 = .ok (.aload_n 0, 1) := by decide +kernel
theorem dX2_put_21 : decode cX2_put 21 = .ok (.getfield 15, 3) := by decide +kernel
theorem dX2_put_24 : decode cX2_put 24 = .ok (.iload_n 1, 1) := by decide +kernel
theorem dX2_put_25 : decode cX2_put 25 = .ok (.aload_n 2, 1) := by decide +kernel
theorem dX2_put_26 : decode cX2_put 26 = .ok (.getfield 54, 3) := by decide +kernel
theorem dX2_put_29 : decode cX2_put 29 = .ok (.iastore, 1) := by decide +kernel
theorem dX2_put_30 : decode cX2_put 30 = .ok (.aload_n 0, 1) := by decide +kernel
theorem dX2_put_31 : decode cX2_put 31 = .ok (.getfield 18, 3) := by decide +kernel
theorem dX2_put_34 : decode cX2_put 34 = .ok (.iload_n 1, 1) := by decide +kernel
theorem dX2_put_35 : decode cX2_put 35 = .ok (.aload_n 2, 1) := by decide +kernel
theorem dX2_put_36 : decode cX2_put 36 = .ok (.getfield 57, 3) := by decide +kernel
theorem dX2_put_39 : decode cX2_put 39 = .ok (.lastore, 1) := by decide +kernel
theorem dX2_put_40 : decode cX2_put 40 = .ok (.return_, 1) := by decide +kernel
set_option maxRecDepth 20000 in
theorem ggX2_show_X6_outside : GoodIn wsX2_show wsX6_outside := goodIn_r _ [6] (by decide +kernel) (by decide +kernel)
set_option maxRecDepth 20000 in
theorem gX2_show_X6_outside_n45 : GoodIn wsX2_show (wsX6_outside) := ggX2_show_X6_outside
set_option maxRecDepth 20000 in
theorem ggX2_show_X0_show : GoodIn wsX2_show wsX0_show := goodIn_r _ [11, 12, 13, 14, 15, 21, 22, 23, 24, 25] (by decide +kernel) (by decide +kernel)
set_option maxRecDepth 20000 in
theorem gX2_show_X0_show : GoodIn wsX2_show (wsV RX2 61 RX0 yX0_show wsX0_show) := goodIn_app (goodIn_of _ (by decide +kernel)) ggX2_show_X0_show
theorem dX2_show_0 : decode cX2_show 0 = .ok (.iload_n 1, 1) := by decide +kernel
theorem dX2_show_1 : decode cX2_show 1 = .ok (.iconst 0, 1) := by decide +kernel
theorem dX2_show_2 : decode cX2_show 2 = .ok (.bipush 15, 2) := by decide +kernel
theorem dX2_show_4 : decode cX2_show 4 = .ok (.invokestatic 45, 3) := by decide +kernel
theorem dX2_show_7 : decode cX2_show 7 = .ok (.ifCond .ne 25, 3) := by decide +kernel
theorem dX2_show_10 : decode cX2_show 10 = .ok (.aload_n 2, 1) := by decide +kernel
theorem dX2_show_11 : decode cX2_show 11 = .ok (.aload_n 0, 1) := by decide +kernel
theorem dX2_show_12 : decode cX2_show 12 = .ok (.getfield 11, 3) := by decide +kernel
theorem dX2_show_15 : decode cX2_show 15 = .ok (.iload_n 1, 1) := by decide +kernel
theorem dX2_show_16 : decode cX2_show 16 = .ok (.iaload, 1) := by decide +kernel
theorem dX2_show_17 : decode cX2_show 17 = .ok (.aload_n 0, 1) := by decide +kernel
theorem dX2_show_18 : decode cX2_show 18 = .ok (.getfield 15, 3) := by decide +kernel
theorem dX2_show_21 : decode cX2_show 21 = .ok (.iload_n 1, 1) := by decide +kernel
theorem dX2_show_22 : decode cX2_show 22 = .ok (.iaload, 1) := by decide +kernel
theorem dX2_show_23 : decode cX2_show 23 = .ok (.aload_n 0, 1) := by decide +kernel
theorem dX2_show_24 : decode cX2_show 24 = .ok (.getfield 18, 3) := by decide +kernel
theorem dX2_show_27 : decode cX2_show 27 = .ok (.iload_n 1, 1) := by decide +kernel
theorem dX2_show_28 : decode cX2_show 28 = .ok (.laload, 1) := by decide +kernel
theorem dX2_show_29 : decode cX2_show 29 = .ok (.invokevirtual 61, 3) := by decide +kernel
theorem dX2_show_32 : decode cX2_show 32 = .ok (.return_, 1) := by decide +kernel
theorem dX3_init_0 : decode cX3_init 0 = .ok (.aload_n 0, 1) := by decide +kernel
theorem dX3_init_1 : decode cX3_init 1 = .ok (.invokespecial 3, 3) := by decide +kernel
theorem dX3_init_4 : decode cX3_init 4 = .ok (.aload_n 0, 1) := by decide +kernel
theorem dX3_init_5 : decode cX3_init 5 = .ok (.sipush 631, 3) := by decide +kernel
theorem dX3_init_8 : decode cX3_init 8 = .ok (.newarray .int, 2) := by decide +kernel
theorem dX3_init_10 : decode cX3_init 10 = .ok (.putfield 11, 3) := by decide +kernel
theorem dX3_init_13 : decode cX3_init 13 = .ok (.aload_n 0, 1) := by decide +kernel
theorem dX3_init_14 : decode cX3_init 14 = .ok (.sipush 2524, 3) := by decide +kernel
theorem dX3_init_17 : decode cX3_init 17 = .ok (.newarray .int, 2) := by decide +kernel
theorem dX3_init_19 : decode cX3_init 19 = .ok (.putfield 15, 3) := by decide +kernel
theorem dX3_init_22 : decode cX3_init 22 = .ok (.aload_n 0, 1) := by decide +kernel
theorem dX3_init_23 : decode cX3_init 23 = .ok (.sipush 631, 3) := by decide +kernel
theorem dX3_init_26 : decode cX3_init 26 = .ok (.newarray .long, 2) := by decide +kernel
theorem dX3_init_28 : decode cX3_init 28 = .ok (.putfield 18, 3) := by decide +kernel
theorem dX3_init_31 : decode cX3_init 31 = .ok (.return_, 1) := by decide +kernel
set_option maxRecDepth 20000 in
theorem ggX3_begin_X3_fill : GoodIn wsX3_begin wsX3_fill := goodIn_r _ [11, 12, 13, 14, 15, 16, 17, 18, 10, 19, 2, 20, 21, 22, 23, 24] (by decide +kernel) (by decide +kernel)
set_option maxRecDepth 20000 in
theorem gX3_begin_X3_fill : GoodIn wsX3_begin (wsV RX3 29 RX3 yX3_fill wsX3_fill) := goodIn_app (goodIn_of _ (by decide +kernel)) ggX3_begin_X3_fill
theorem dX3_begin_0 : decode cX3_begin 0 = .ok (.aload_n 0, 1) := by decide +kernel
theorem dX3_begin_1 : decode cX3_begin 1 = .ok (.iload_n 1, 1) := by decide +kernel
theorem dX3_begin_2 : decode cX3_begin 2 = .ok (.putfield 22, 3) := by decide +kernel
theorem dX3_begin_5 : decode cX3_begin 5 = .ok (.aload_n 0, 1) := by decide +kernel
theorem dX3_begin_6 : decode cX3_begin 6 = .ok (.iconst 0, 1) := by decide +kernel
theorem dX3_begin_7 : decode cX3_begin 7 = .ok (.putfield 26, 3) := by decide +kernel
theorem dX3_begin_10 : decode cX3_begin 10 = .ok (.iconst 1, 1) := by decide +kernel
theorem dX3_begin_11 : decode cX3_begin 11 = .ok (.istore_n 2, 1) := by decide +kernel
theorem dX3_begin_12 : decode cX3_begin 12 = .ok (.aload_n 0, 1) := by decide +kernel
theorem dX3_begin_13 : decode cX3_begin 13 = .ok (.getfield 26, 3) := by decide +kernel
theorem dX3_begin_16 : decode cX3_begin 16 = .ok (.sipush 631, 3) := by decide +kernel
theorem dX3_begin_19 : decode cX3_begin 19 = .ok (.if_icmp .ge 51, 3) := by decide +kernel
theorem dX3_begin_22 : decode cX3_begin 22 = .ok (.iload_n 2, 1) := by decide +kernel
theorem dX3_begin_23 : decode cX3_begin 23 = .ok (.iconst 1, 1) := by decide +kernel
theorem dX3_begin_24 : decode cX3_begin 24 = .ok (.if_icmp .lt 46, 3) := by decide +kernel
theorem dX3_begin_27 : decode cX3_begin 27 = .ok (.iload_n 2, 1) := by decide +kernel
theorem dX3_begin_28 : decode cX3_begin 28 = .ok (.iload_n 1, 1) := by decide +kernel
theorem dX3_begin_29 : decode cX3_begin 29 = .ok (.if_icmp .gt 41, 3) := by decide +kernel
theorem dX3_begin_32 : decode cX3_begin 32 = .ok (.iload_n 1, 1) := by decide +kernel
theorem dX3_begin_33 : decode cX3_begin 33 = .ok (.iload_n 2, 1) := by decide +kernel
theorem dX3_begin_34 : decode cX3_begin 34 = .ok (.idiv, 1) := by decide +kernel
theorem dX3_begin_35 : decode cX3_begin 35 = .ok (.istore_n 3, 1) := by decide +kernel
theorem dX3_begin_36 : decode cX3_begin 36 = .ok (.aload_n 0, 1) := by decide +kernel
theorem dX3_begin_37 : decode cX3_begin 37 = .ok (.dup, 1) := by decide +kernel
theorem dX3_begin_38 : decode cX3_begin 38 = .ok (.getfield 26, 3) := by decide +kernel
theorem dX3_begin_41 : decode cX3_begin 41 = .ok (.iconst 1, 1) := by decide +kernel
theorem dX3_begin_42 : decode cX3_begin 42 = .ok (.iadd, 1) := by decide +kernel
theorem dX3_begin_43 : decode cX3_begin 43 = .ok (.putfield 26, 3) := by decide +kernel
theorem dX3_begin_46 : decode cX3_begin 46 = .ok (.aload_n 0, 1) := by decide +kernel
theorem dX3_begin_47 : decode cX3_begin 47 = .ok (.aload_n 0, 1) := by decide +kernel
theorem dX3_begin_48 : decode cX3_begin 48 = .ok (.getfield 26, 3) := by decide +kernel
theorem dX3_begin_51 : decode cX3_begin 51 = .ok (.iconst 1, 1) := by decide +kernel
theorem dX3_begin_52 : decode cX3_begin 52 = .ok (.isub, 1) := by decide +kernel
theorem dX3_begin_53 : decode cX3_begin 53 = .ok (.iload_n 3, 1) := by decide +kernel
theorem dX3_begin_54 : decode cX3_begin 54 = .ok (.invokevirtual 29, 3) := by decide +kernel
theorem dX3_begin_57 : decode cX3_begin 57 = .ok (.iload_n 1, 1) := by decide +kernel
theorem dX3_begin_58 : decode cX3_begin 58 = .ok (.iconst 1, 1) := by decide +kernel
theorem dX3_begin_59 : decode cX3_begin 59 = .ok (.iload_n 3, 1) := by decide +kernel
theorem dX3_begin_60 : decode cX3_begin 60 = .ok (.invokestatic 33, 3) := by decide +kernel
theorem dX3_begin_63 : decode cX3_begin 63 = .ok (.idiv, 1) := by decide +kernel
theorem dX3_begin_64 : decode cX3_begin 64 = .ok (.iconst 1, 1) := by decide +kernel
theorem dX3_begin_65 : decode cX3_begin 65 = .ok (.iadd, 1) := by decide +kernel
theorem dX3_begin_66 : decode cX3_begin 66 = .ok (.istore_n 2, 1) := by decide +kernel
theorem dX3_begin_67 : decode cX3_begin 67 = .ok (.goto (-55), 3) := by decide +kernel
theorem dX3_begin_70 : decode cX3_begin 70 = .ok (.return_, 1) := by decide +kernel
set_option maxRecDepth 20000 in
theorem ggX3_fill_X3_has : GoodIn wsX3_fill wsX3_has := goodIn_r _ [9, 10, 11, 12, 13, 14, 15] (by decide +kernel) (by decide +kernel)
set_option maxRecDepth 20000 in
theorem gX3_fill_X3_has : GoodIn wsX3_fill (wsV RX3 39 RX3 yX3_has wsX3_has) := goodIn_app (goodIn_of _ (by decide +kernel)) ggX3_fill_X3_has
theorem dX3_fill_0 : decode cX3_fill 0 = .ok (.aload_n 0, 1) := by decide +kernel
theorem dX3_fill_1 : decode cX3_fill 1 = .ok (.iload_n 1, 1) := by decide +kernel
theorem dX3_fill_2 : decode cX3_fill 2 = .ok (.invokevirtual 39, 3) := by decide +kernel
theorem dX3_fill_5 : decode cX3_fill 5 = .ok (.ifCond .ne 4, 3) := by decide +kernel
theorem dX3_fill_8 : decode cX3_fill 8 = .ok (.return_, 1) := by decide +kernel
theorem dX3_fill_9 : decode cX3_fill 9 = .ok (.aload_n 0, 1) := by decide +kernel
theorem dX3_fill_10 : decode cX3_fill 10 = .ok (.getfield 11, 3) := by decide +kernel
theorem dX3_fill_13 : decode cX3_fill 13 = .ok (.iload_n 1, 1) := by decide +kernel
theorem dX3_fill_14 : decode cX3_fill 14 = .ok (.iload_n 2, 1) := by decide +kernel
theorem dX3_fill_15 : decode cX3_fill 15 = .ok (.iastore, 1) := by decide +kernel
theorem dX3_fill_16 : decode cX3_fill 16 = .ok (.aload_n 0, 1) := by decide +kernel
theorem dX3_fill_17 : decode cX3_fill 17 = .ok (.getfield 18, 3) := by decide +kernel
theorem dX3_fill_20 : decode cX3_fill 20 = .ok (.iload_n 1, 1) := by decide +kernel
theorem dX3_fill_21 : decode cX3_fill 21 = .ok (.iload_n 2, 1) := by decide +kernel
theorem dX3_fill_22 : decode cX3_fill 22 = .ok (.i2l, 1) := by decide +kernel
theorem dX3_fill_23 : decode cX3_fill 23 = .ok (.iload_n 2, 1) := by decide +kernel
theorem dX3_fill_24 : decode cX3_fill 24 = .ok (.i2l, 1) := by decide +kernel
theorem dX3_fill_25 : decode cX3_fill 25 = .ok (.lconst 1, 1) := by decide +kernel
theorem dX3_fill_26 : decode cX3_fill 26 = .ok (.ladd, 1) := by decide +kernel
theorem dX3_fill_27 : decode cX3_fill 27 = .ok (.lmul, 1) := by decide +kernel
theorem dX3_fill_28 : decode cX3_fill 28 = .ok (.ldc2_w 43, 3) := by decide +kernel
theorem dX3_fill_31 : decode cX3_fill 31 = .ok (.ldiv, 1) := by decide +kernel
theorem dX3_fill_32 : decode cX3_fill 32 = .ok (.lastore, 1) := by decide +kernel
theorem dX3_fill_33 : decode cX3_fill 33 = .ok (.aload_n 0, 1) := by decide +kernel
theorem dX3_fill_34 : decode cX3_fill 34 = .ok (.getfield 15, 3) := by decide +kernel
theorem dX3_fill_37 : decode cX3_fill 37 = .ok (.iconst 4, 1) := by decide +kernel
theorem dX3_fill_38 : decode cX3_fill 38 = .ok (.iload_n 1, 1) := by decide +kernel
theorem dX3_fill_39 : decode cX3_fill 39 = .ok (.imul, 1) := by decide +kernel
theorem dX3_fill_40 : decode cX3_fill 40 = .ok (.iload_n 2, 1) := by decide +kernel
theorem dX3_fill_41 : decode cX3_fill 41 = .ok (.iconst 4, 1) := by decide +kernel
theorem dX3_fill_42 : decode cX3_fill 42 = .ok (.idiv, 1) := by decide +kernel
theorem dX3_fill_43 : decode cX3_fill 43 = .ok (.iastore, 1) := by decide +kernel
theorem dX3_fill_44 : decode cX3_fill 44 = .ok (.iconst 1, 1) := by decide +kernel
theorem dX3_fill_45 : decode cX3_fill 45 = .ok (.istore_n 3, 1) := by decide +kernel
theorem dX3_fill_46 : decode cX3_fill 46 = .ok (.iload_n 3, 1) := by decide +kernel
theorem dX3_fill_47 : decode cX3_fill 47 = .ok (.iconst 4, 1) := by decide +kernel
theorem dX3_fill_48 : decode cX3_fill 48 = .ok (.if_icmp .ge 26, 3) := by decide +kernel
theorem dX3_fill_51 : decode cX3_fill 51 = .ok (.aload_n 0, 1) := by decide +kernel
theorem dX3_fill_52 : decode cX3_fill 52 = .ok (.getfield 15, 3) := by decide +kernel
theorem dX3_fill_55 : decode cX3_fill 55 = .ok (.iconst 4, 1) := by decide +kernel
theorem dX3_fill_56 : decode cX3_fill 56 = .ok (.iload_n 1, 1) := by decide +kernel
theorem dX3_fill_57 : decode cX3_fill 57 = .ok (.imul, 1) := by decide +kernel
theorem dX3_fill_58 : decode cX3_fill 58 = .ok (.iload_n 3, 1) := by decide +kernel
theorem dX3_fill_59 : decode cX3_fill 59 = .ok (.iadd, 1) := by decide +kernel
theorem dX3_fill_60 : decode cX3_fill 60 = .ok (.iload_n 2, 1) := by decide +kernel
theorem dX3_fill_61 : decode cX3_fill 61 = .ok (.iconst 4, 1) := by decide +kernel
theorem dX3_fill_62 : decode cX3_fill 62 = .ok (.iadd, 1) := by decide +kernel
theorem dX3_fill_63 : decode cX3_fill 63 = .ok (.iload_n 3, 1) := by decide +kernel
theorem dX3_fill_64 : decode cX3_fill 64 = .ok (.isub, 1) := by decide +kernel
theorem dX3_fill_65 : decode cX3_fill 65 = .ok (.iconst 4, 1) := by decide +kernel
theorem dX3_fill_66 : decode cX3_fill 66 = .ok (.idiv, 1) := by decide +kernel
theorem dX3_fill_67 : decode cX3_fill 67 = .ok (.iastore, 1) := by decide +kernel
theorem dX3_fill_68 : decode cX3_fill 68 = .ok (.iinc 3 1, 3) := by decide +kernel
theorem dX3_fill_71 : decode cX3_fill 71 = .ok (.goto (-25), 3) := by decide +kernel
theorem dX3_fill_74 : decode cX3_fill 74 = .ok (.return_, 1) := by decide +kernel
theorem dX3_placeOf_0 : decode cX3_placeOf 0 = .ok (.iload_n 1, 1) := by decide +kernel
theorem dX3_placeOf_1 : decode cX3_placeOf 1 = .ok (.iconst 1, 1) := by decide +kernel
theorem dX3_placeOf_2 : decode cX3_placeOf 2 = .ok (.if_icmp .lt 11, 3) := by decide +kernel
theorem dX3_placeOf_5 : decode cX3_placeOf 5 = .ok (.iload_n 1, 1) := by decide +kernel
theorem dX3_placeOf_6 : decode cX3_placeOf 6 = .ok (.aload_n 0, 1) := by decide +kernel
theorem dX3_placeOf_7 : decode cX3_placeOf 7 = .ok (.getfield 22, 3) := by decide +kernel
theorem dX3_placeOf_10 : decode cX3_placeOf 10 = .ok (.if_icmp .le 5, 3) := by decide +kernel
theorem dX3_placeOf_13 : decode cX3_placeOf 13 = .ok (.iconst (-1), 1) := by decide +kernel
theorem dX3_placeOf_14 : decode cX3_placeOf 14 = .ok (.ireturn, 1) := by decide +kernel
theorem dX3_placeOf_15 : decode cX3_placeOf 15 = .ok (.aload_n 0, 1) := by decide +kernel
theorem dX3_placeOf_16 : decode cX3_placeOf 16 = .ok (.getfield 22, 3) := by decide +kernel
theorem dX3_placeOf_19 : decode cX3_placeOf 19 = .ok (.iload_n 1, 1) := by decide +kernel
theorem dX3_placeOf_20 : decode cX3_placeOf 20 = .ok (.idiv, 1) := by decide +kernel
theorem dX3_placeOf_21 : decode cX3_placeOf 21 = .ok (.istore_n 2, 1) := by decide +kernel
theorem dX3_placeOf_22 : decode cX3_placeOf 22 = .ok (.iload_n 2, 1) := by decide +kernel
theorem dX3_placeOf_23 : decode cX3_placeOf 23 = .ok (.iconst 1, 1) := by decide +kernel
theorem dX3_placeOf_24 : decode cX3_placeOf 24 = .ok (.if_icmp .lt 13, 3) := by decide +kernel
theorem dX3_placeOf_27 : decode cX3_placeOf 27 = .ok (.aload_n 0, 1) := by decide +kernel
theorem dX3_placeOf_28 : decode cX3_placeOf 28 = .ok (.getfield 22, 3) := by decide +kernel
theorem dX3_placeOf_31 : decode cX3_placeOf 31 = .ok (.iload_n 2, 1) := by decide +kernel
theorem dX3_placeOf_32 : decode cX3_placeOf 32 = .ok (.idiv, 1) := by decide +kernel
theorem dX3_placeOf_33 : decode cX3_placeOf 33 = .ok (.iload_n 1, 1) := by decide +kernel
theorem dX3_placeOf_34 : decode cX3_placeOf 34 = .ok (.if_icmp .eq 5, 3) := by decide +kernel
theorem dX3_placeOf_37 : decode cX3_placeOf 37 = .ok (.iconst (-1), 1) := by decide +kernel
theorem dX3_placeOf_38 : decode cX3_placeOf 38 = .ok (.ireturn, 1) := by decide +kernel
theorem dX3_placeOf_39 : decode cX3_placeOf 39 = .ok (.iload_n 1, 1) := by decide +kernel
theorem dX3_placeOf_40 : decode cX3_placeOf 40 = .ok (.iload_n 2, 1) := by decide +kernel
theorem dX3_placeOf_41 : decode cX3_placeOf 41 = .ok (.if_icmp .gt 12, 3) := by decide +kernel
theorem dX3_placeOf_44 : decode cX3_placeOf 44 = .ok (.aload_n 0, 1) := by decide +kernel
theorem dX3_placeOf_45 : decode cX3_placeOf 45 = .ok (.getfield 26, 3) := by decide +kernel
theorem dX3_placeOf_48 : decode cX3_placeOf 48 = .ok (.iload_n 1, 1) := by decide +kernel
theorem dX3_placeOf_49 : decode cX3_placeOf 49 = .ok (.isub, 1) := by decide +kernel
theorem dX3_placeOf_50 : decode cX3_placeOf 50 = .ok (.goto 6, 3) := by decide +kernel
theorem dX3_placeOf_53 : decode cX3_placeOf 53 = .ok (.iload_n 2, 1) := by decide +kernel
theorem dX3_placeOf_54 : decode cX3_placeOf 54 = .ok (.iconst 1, 1) := by decide +kernel
theorem dX3_placeOf_55 : decode cX3_placeOf 55 = .ok (.isub, 1) := by decide +kernel
theorem dX3_placeOf_56 : decode cX3_placeOf 56 = .ok (.ireturn, 1) := by decide +kernel
theorem dX3_has_0 : decode cX3_has 0 = .ok (.iload_n 1, 1) := by decide +kernel
theorem dX3_has_1 : decode cX3_has 1 = .ok (.ifCond .lt 15, 3) := by decide +kernel
theorem dX3_has_4 : decode cX3_has 4 = .ok (.iload_n 1, 1) := by decide +kernel
theorem dX3_has_5 : decode cX3_has 5 = .ok (.aload_n 0, 1) := by decide +kernel
theorem dX3_has_6 : decode cX3_has 6 = .ok (.getfield 26, 3) := by decide +kernel
theorem dX3_has_9 : decode cX3_has 9 = .ok (.if_icmp .ge 7, 3) := by decide +kernel
theorem dX3_has_12 : decode cX3_has 12 = .ok (.iconst 1, 1) := by decide +kernel
theorem dX3_has_13 : decode cX3_has 13 = .ok (.goto 4, 3) := by decide +kernel
theorem dX3_has_16 : decode cX3_has 16 = .ok (.iconst 0, 1) := by decide +kernel
theorem dX3_has_17 : decode cX3_has 17 = .ok (.ireturn, 1) := by decide +kernel
set_option maxRecDepth 20000 in
theorem ggX3_valueAt_X3_has : GoodIn wsX3_valueAt wsX3_has := goodIn_r _ [6, 7, 8, 9, 10, 11, 12] (by decide +kernel) (by decide +kernel)
set_option maxRecDepth 20000 in
theorem gX3_valueAt_X3_has : GoodIn wsX3_valueAt (wsV RX3 39 RX3 yX3_has wsX3_has) := goodIn_app (goodIn_of _ (by decide +kernel)) ggX3_valueAt_X3_has
theorem dX3_valueAt_0 : decode cX3_valueAt 0 = .ok (.aload_n 0, 1) := by decide +kernel
theorem dX3_valueAt_1 : decode cX3_valueAt 1 = .ok (.iload_n 1, 1) := by decide +kernel
theorem dX3_valueAt_2 : decode cX3_valueAt 2 = .ok (.invokevirtual 39, 3) := by decide +kernel
theorem dX3_valueAt_5 : decode cX3_valueAt 5 = .ok (.ifCond .eq 12, 3) := by decide +kernel
theorem dX3_valueAt_8 : decode cX3_valueAt 8 = .ok (.aload_n 0, 1) := by decide +kernel
theorem dX3_valueAt_9 : decode cX3_valueAt 9 = .ok (.getfield 11, 3) := by decide +kernel
theorem dX3_valueAt_12 : decode cX3_valueAt 12 = .ok (.iload_n 1, 1) := by decide +kernel
theorem dX3_valueAt_13 : decode cX3_valueAt 13 = .ok (.iaload, 1) := by decide +kernel
theorem dX3_valueAt_14 : decode cX3_valueAt 14 = .ok (.goto 4, 3) := by decide +kernel
theorem dX3_valueAt_17 : decode cX3_valueAt 17 = .ok (.iconst 0, 1) := by decide +kernel
theorem dX3_valueAt_18 : decode cX3_valueAt 18 = .ok (.ireturn, 1) := by decide +kernel
set_option maxRecDepth 20000 in
theorem ggX3_countAt_X3_restAt : GoodIn wsX3_countAt wsX3_restAt := goodIn_r _ [5, 6, 7, 8, 9, 4, 10, 11, 12, 13, 14, 15, 16, 17, 18, 19] (by decide +kernel) (by decide +kernel)
set_option maxRecDepth 20000 in
theorem gX3_countAt_X3_restAt : GoodIn wsX3_countAt (wsV RX3 45 RX3 yX3_restAt wsX3_restAt) := goodIn_app (goodIn_of _ (by decide +kernel)) ggX3_countAt_X3_restAt
theorem dX3_countAt_0 : decode cX3_countAt 0 = .ok (.iconst 0, 1) := by decide +kernel
theorem dX3_countAt_1 : decode cX3_countAt 1 = .ok (.istore_n 2, 1) := by decide +kernel
theorem dX3_countAt_2 : decode cX3_countAt 2 = .ok (.iconst 0, 1) := by decide +kernel
theorem dX3_countAt_3 : decode cX3_countAt 3 = .ok (.istore_n 3, 1) := by decide +kernel
theorem dX3_countAt_4 : decode cX3_countAt 4 = .ok (.iload_n 3, 1) := by decide +kernel
theorem dX3_countAt_5 : decode cX3_countAt 5 = .ok (.iconst 4, 1) := by decide +kernel
theorem dX3_countAt_6 : decode cX3_countAt 6 = .ok (.if_icmp .ge 18, 3) := by decide +kernel
theorem dX3_countAt_9 : decode cX3_countAt 9 = .ok (.iload_n 2, 1) := by decide +kernel
theorem dX3_countAt_10 : decode cX3_countAt 10 = .ok (.aload_n 0, 1) := by decide +kernel
theorem dX3_countAt_11 : decode cX3_countAt 11 = .ok (.iload_n 1, 1) := by decide +kernel
theorem dX3_countAt_12 : decode cX3_countAt 12 = .ok (.iload_n 3, 1) := by decide +kernel
theorem dX3_countAt_13 : decode cX3_countAt 13 = .ok (.invokevirtual 45, 3) := by decide +kernel
theorem dX3_countAt_16 : decode cX3_countAt 16 = .ok (.iadd, 1) := by decide +kernel
theorem dX3_countAt_17 : decode cX3_countAt 17 = .ok (.istore_n 2, 1) := by decide +kernel
theorem dX3_countAt_18 : decode cX3_countAt 18 = .ok (.iinc 3 1, 3) := by decide +kernel
theorem dX3_countAt_21 : decode cX3_countAt 21 = .ok (.goto (-17), 3) := by decide +kernel
theorem dX3_countAt_24 : decode cX3_countAt 24 = .ok (.iload_n 2, 1) := by decide +kernel
theorem dX3_countAt_25 : decode cX3_countAt 25 = .ok (.ireturn, 1) := by decide +kernel
set_option maxRecDepth 20000 in
theorem ggX3_restAt_X3_has : GoodIn wsX3_restAt wsX3_has := goodIn_r _ [6, 7, 11, 12, 13, 14, 15] (by decide +kernel) (by decide +kernel)
set_option maxRecDepth 20000 in
theorem gX3_restAt_X3_has : GoodIn wsX3_restAt (wsV RX3 39 RX3 yX3_has wsX3_has) := goodIn_app (goodIn_of _ (by decide +kernel)) ggX3_restAt_X3_has
set_option maxRecDepth 20000 in
theorem ggX3_restAt_X6_outside : GoodIn wsX3_restAt wsX6_outside := goodIn_r _ [10] (by decide +kernel) (by decide +kernel)
set_option maxRecDepth 20000 in
theorem gX3_restAt_X6_outside_n48 : GoodIn wsX3_restAt (wsX6_outside) := ggX3_restAt_X6_outside
theorem dX3_restAt_0 : decode cX3_restAt 0 = .ok (.aload_n 0, 1) := by decide +kernel
theorem dX3_restAt_1 : decode cX3_restAt 1 = .ok (.iload_n 1, 1) := by decide +kernel
theorem dX3_restAt_2 : decode cX3_restAt 2 = .ok (.invokevirtual 39, 3) := by decide +kernel
theorem dX3_restAt_5 : decode cX3_restAt 5 = .ok (.ifCond .eq 25, 3) := by decide +kernel
theorem dX3_restAt_8 : decode cX3_restAt 8 = .ok (.iload_n 2, 1) := by decide +kernel
theorem dX3_restAt_9 : decode cX3_restAt 9 = .ok (.iconst 0, 1) := by decide +kernel
theorem dX3_restAt_10 : decode cX3_restAt 10 = .ok (.iconst 3, 1) := by decide +kernel
theorem dX3_restAt_11 : decode cX3_restAt 11 = .ok (.invokestatic 48, 3) := by decide +kernel
theorem dX3_restAt_14 : decode cX3_restAt 14 = .ok (.ifCond .ne 16, 3) := by decide +kernel
theorem dX3_restAt_17 : decode cX3_restAt 17 = .ok (.aload_n 0, 1) := by decide +kernel
theorem dX3_restAt_18 : decode cX3_restAt 18 = .ok (.getfield 15, 3) := by decide +kernel
theorem dX3_restAt_21 : decode cX3_restAt 21 = .ok (.iconst 4, 1) := by decide +kernel
theorem dX3_restAt_22 : decode cX3_restAt 22 = .ok (.iload_n 1, 1) := by decide +kernel
theorem dX3_restAt_23 : decode cX3_restAt 23 = .ok (.imul, 1) := by decide +kernel
theorem dX3_restAt_24 : decode cX3_restAt 24 = .ok (.iload_n 2, 1) := by decide +kernel
theorem dX3_restAt_25 : decode cX3_restAt 25 = .ok (.iadd, 1) := by decide +kernel
theorem dX3_restAt_26 : decode cX3_restAt 26 = .ok (.iaload, 1) := by decide +kernel
theorem dX3_restAt_27 : decode cX3_restAt 27 = .ok (.goto 4, 3) := by decide +kernel
theorem dX3_restAt_30 : decode cX3_restAt 30 = .ok (.iconst 0, 1) := by decide +kernel
theorem dX3_restAt_31 : decode cX3_restAt 31 = .ok (.ireturn, 1) := by decide +kernel
set_option maxRecDepth 20000 in
theorem ggX3_sumAt_X3_has : GoodIn wsX3_sumAt wsX3_has := goodIn_r _ [6, 7, 8, 9, 10, 11, 12] (by decide +kernel) (by decide +kernel)
set_option maxRecDepth 20000 in
theorem gX3_sumAt_X3_has : GoodIn wsX3_sumAt (wsV RX3 39 RX3 yX3_has wsX3_has) := goodIn_app (goodIn_of _ (by decide +kernel)) ggX3_sumAt_X3_has
theorem dX3_sumAt_0 : decode cX3_sumAt 0 = .ok (.aload_n 0, 1) := by decide +kernel
theorem dX3_sumAt_1 : decode cX3_sumAt 1 = .ok (.iload_n 1, 1) := by decide +kernel
theorem dX3_sumAt_2 : decode cX3_sumAt 2 = .ok (.invokevirtual 39, 3) := by decide +kernel
theorem dX3_sumAt_5 : decode cX3_sumAt 5 = .ok (.ifCond .eq 12, 3) := by decide +kernel
theorem dX3_sumAt_8 : decode cX3_sumAt 8 = .ok (.aload_n 0, 1) := by decide +kernel
theorem dX3_sumAt_9 : decode cX3_sumAt 9 = .ok (.getfield 18, 3) := by decide +kernel
theorem dX3_sumAt_12 : decode cX3_sumAt 12 = .ok (.iload_n 1, 1) := by decide +kernel
theorem dX3_sumAt_13 : decode cX3_sumAt 13 = .ok (.laload, 1) := by decide +kernel
theorem dX3_sumAt_14 : decode cX3_sumAt 14 = .ok (.goto 4, 3) := by decide +kernel
theorem dX3_sumAt_17 : decode cX3_sumAt 17 = .ok (.lconst 0, 1) := by decide +kernel
theorem dX3_sumAt_18 : decode cX3_sumAt 18 = .ok (.lreturn, 1) := by decide +kernel
set_option maxRecDepth 20000 in
theorem ggX3_multiplesAt_X3_valueAt : GoodIn wsX3_multiplesAt wsX3_valueAt := goodIn_r _ [5, 6, 7, 8, 9, 4, 10, 11, 29, 30, 31, 32, 33] (by decide +kernel) (by decide +kernel)
set_option maxRecDepth 20000 in
theorem gX3_multiplesAt_X3_valueAt : GoodIn wsX3_multiplesAt (wsV RX3 52 RX3 yX3_valueAt wsX3_valueAt) := goodIn_app (goodIn_of _ (by decide +kernel)) ggX3_multiplesAt_X3_valueAt
set_option maxRecDepth 20000 in
theorem ggX3_multiplesAt_X3_placeOf : GoodIn wsX3_multiplesAt wsX3_placeOf := goodIn_r _ [15, 16, 11, 29, 30, 31, 32, 33] (by decide +kernel) (by decide +kernel)
set_option maxRecDepth 20000 in
theorem gX3_multiplesAt_X3_placeOf : GoodIn wsX3_multiplesAt (wsV RX3 56 RX3 yX3_placeOf wsX3_placeOf) := goodIn_app (goodIn_of _ (by decide +kernel)) ggX3_multiplesAt_X3_placeOf
set_option maxRecDepth 20000 in
theorem ggX3_multiplesAt_X3_countAt : GoodIn wsX3_multiplesAt wsX3_countAt := goodIn_r _ [20, 21, 22, 23, 4, 24, 25, 7, 8, 9, 10, 11, 26, 27, 28, 29, 30, 31, 32, 33] (by decide +kernel) (by decide +kernel)
set_option maxRecDepth 20000 in
theorem gX3_multiplesAt_X3_countAt : GoodIn wsX3_multiplesAt (wsV RX3 59 RX3 yX3_countAt wsX3_countAt) := goodIn_app (goodIn_of _ (by decide +kernel)) ggX3_multiplesAt_X3_countAt
theorem dX3_multiplesAt_0 : decode cX3_multiplesAt 0 = .ok (.iload_n 2, 1) := by decide +kernel
theorem dX3_multiplesAt_1 : decode cX3_multiplesAt 1 = .ok (.iconst 1, 1) := by decide +kernel
theorem dX3_multiplesAt_2 : decode cX3_multiplesAt 2 = .ok (.if_icmp .ge 7, 3) := by decide +kernel
theorem dX3_multiplesAt_5 : decode cX3_multiplesAt 5 = .ok (.iconst 0, 1) := by decide +kernel
theorem dX3_multiplesAt_6 : decode cX3_multiplesAt 6 = .ok (.goto 18, 3) := by decide +kernel
theorem dX3_multiplesAt_9 : decode cX3_multiplesAt 9 = .ok (.aload_n 0, 1) := by decide +kernel
theorem dX3_multiplesAt_10 : decode cX3_multiplesAt 10 = .ok (.aload_n 0, 1) := by decide +kernel
theorem dX3_multiplesAt_11 : decode cX3_multiplesAt 11 = .ok (.aload_n 0, 1) := by decide +kernel
theorem dX3_multiplesAt_12 : decode cX3_multiplesAt 12 = .ok (.iload_n 1, 1) := by decide +kernel
theorem dX3_multiplesAt_13 : decode cX3_multiplesAt 13 = .ok (.invokevirtual 52, 3) := by decide +kernel
theorem dX3_multiplesAt_16 : decode cX3_multiplesAt 16 = .ok (.iload_n 2, 1) := by decide +kernel
theorem dX3_multiplesAt_17 : decode cX3_multiplesAt 17 = .ok (.idiv, 1) := by decide +kernel
theorem dX3_multiplesAt_18 : decode cX3_multiplesAt 18 = .ok (.invokevirtual 56, 3) := by decide +kernel
theorem dX3_multiplesAt_21 : decode cX3_multiplesAt 21 = .ok (.invokevirtual 59, 3) := by decide +kernel
theorem dX3_multiplesAt_24 : decode cX3_multiplesAt 24 = .ok (.ireturn, 1) := by decide +kernel
set_option maxRecDepth 20000 in
theorem ggX3_remove_X3_valueAt : GoodIn wsX3_remove wsX3_valueAt := goodIn_r _ [8, 1, 9, 10, 11, 7, 12, 13, 19, 20, 21, 22, 23] (by decide +kernel) (by decide +kernel)
set_option maxRecDepth 20000 in
theorem gX3_remove_X3_valueAt : GoodIn wsX3_remove (wsV RX3 52 RX3 yX3_valueAt wsX3_valueAt) := goodIn_app (goodIn_of _ (by decide +kernel)) ggX3_remove_X3_valueAt
set_option maxRecDepth 20000 in
theorem ggX3_remove_X3_placeOf : GoodIn wsX3_remove wsX3_placeOf := goodIn_r _ [17, 18, 13, 19, 20, 21, 22, 23] (by decide +kernel) (by decide +kernel)
set_option maxRecDepth 20000 in
theorem gX3_remove_X3_placeOf : GoodIn wsX3_remove (wsV RX3 56 RX3 yX3_placeOf wsX3_placeOf) := goodIn_app (goodIn_of _ (by decide +kernel)) ggX3_remove_X3_placeOf
set_option maxRecDepth 20000 in
theorem ggX3_remove_X3_has : GoodIn wsX3_remove wsX3_has := goodIn_r _ [12, 13, 19, 20, 21, 22, 23] (by decide +kernel) (by decide +kernel)
set_option maxRecDepth 20000 in
theorem gX3_remove_X3_has : GoodIn wsX3_remove (wsV RX3 39 RX3 yX3_has wsX3_has) := goodIn_app (goodIn_of _ (by decide +kernel)) ggX3_remove_X3_has
theorem dX3_remove_0 : decode cX3_remove 0 = .ok (.iload_n 1, 1) := by decide +kernel
theorem dX3_remove_1 : decode cX3_remove 1 = .ok (.iconst 2, 1) := by decide +kernel
theorem dX3_remove_2 : decode cX3_remove 2 = .ok (.if_icmp .ge 4, 3) := by decide +kernel
theorem dX3_remove_5 : decode cX3_remove 5 = .ok (.return_, 1) := by decide +kernel
theorem dX3_remove_6 : decode cX3_remove 6 = .ok (.iconst 0, 1) := by decide +kernel
theorem dX3_remove_7 : decode cX3_remove 7 = .ok (.istore_n 2, 1) := by decide +kernel
theorem dX3_remove_8 : decode cX3_remove 8 = .ok (.iload_n 2, 1) := by decide +kernel
theorem dX3_remove_9 : decode cX3_remove 9 = .ok (.sipush 631, 3) := by decide +kernel
theorem dX3_remove_12 : decode cX3_remove 12 = .ok (.if_icmp .ge 102, 3) := by decide +kernel
theorem dX3_remove_15 : decode cX3_remove 15 = .ok (.aload_n 0, 1) := by decide +kernel
theorem dX3_remove_16 : decode cX3_remove 16 = .ok (.iload_n 2, 1) := by decide +kernel
theorem dX3_remove_17 : decode cX3_remove 17 = .ok (.invokevirtual 52, 3) := by decide +kernel
theorem dX3_remove_20 : decode cX3_remove 20 = .ok (.iload_n 1, 1) := by decide +kernel
theorem dX3_remove_21 : decode cX3_remove 21 = .ok (.if_icmp .lt 93, 3) := by decide +kernel
theorem dX3_remove_24 : decode cX3_remove 24 = .ok (.aload_n 0, 1) := by decide +kernel
theorem dX3_remove_25 : decode cX3_remove 25 = .ok (.aload_n 0, 1) := by decide +kernel
theorem dX3_remove_26 : decode cX3_remove 26 = .ok (.getfield 11, 3) := by decide +kernel
theorem dX3_remove_29 : decode cX3_remove 29 = .ok (.iload_n 2, 1) := by decide +kernel
theorem dX3_remove_30 : decode cX3_remove 30 = .ok (.iaload, 1) := by decide +kernel
theorem dX3_remove_31 : decode cX3_remove 31 = .ok (.iload_n 1, 1) := by decide +kernel
theorem dX3_remove_32 : decode cX3_remove 32 = .ok (.idiv, 1) := by decide +kernel
theorem dX3_remove_33 : decode cX3_remove 33 = .ok (.invokevirtual 56, 3) := by decide +kernel
theorem dX3_remove_36 : decode cX3_remove 36 = .ok (.istore_n 3, 1) := by decide +kernel
theorem dX3_remove_37 : decode cX3_remove 37 = .ok (.aload_n 0, 1) := by decide +kernel
theorem dX3_remove_38 : decode cX3_remove 38 = .ok (.iload_n 3, 1) := by decide +kernel
theorem dX3_remove_39 : decode cX3_remove 39 = .ok (.invokevirtual 39, 3) := by decide +kernel
theorem dX3_remove_42 : decode cX3_remove 42 = .ok (.ifCond .ne 4, 3) := by decide +kernel
theorem dX3_remove_45 : decode cX3_remove 45 = .ok (.return_, 1) := by decide +kernel
theorem dX3_remove_46 : decode cX3_remove 46 = .ok (.aload_n 0, 1) := by decide +kernel
theorem dX3_remove_47 : decode cX3_remove 47 = .ok (.getfield 18, 3) := by decide +kernel
theorem dX3_remove_50 : decode cX3_remove 50 = .ok (.iload_n 2, 1) := by decide +kernel
theorem dX3_remove_51 : decode cX3_remove 51 = .ok (.dup2, 1) := by decide +kernel
theorem dX3_remove_52 : decode cX3_remove 52 = .ok (.laload, 1) := by decide +kernel
theorem dX3_remove_53 : decode cX3_remove 53 = .ok (.iload_n 1, 1) := by decide +kernel
theorem dX3_remove_54 : decode cX3_remove 54 = .ok (.i2l, 1) := by decide +kernel
theorem dX3_remove_55 : decode cX3_remove 55 = .ok (.aload_n 0, 1) := by decide +kernel
theorem dX3_remove_56 : decode cX3_remove 56 = .ok (.getfield 18, 3) := by decide +kernel
theorem dX3_remove_59 : decode cX3_remove 59 = .ok (.iload_n 3, 1) := by decide +kernel
theorem dX3_remove_60 : decode cX3_remove 60 = .ok (.laload, 1) := by decide +kernel
theorem dX3_remove_61 : decode cX3_remove 61 = .ok (.lmul, 1) := by decide +kernel
theorem dX3_remove_62 : decode cX3_remove 62 = .ok (.lsub, 1) := by decide +kernel
theorem dX3_remove_63 : decode cX3_remove 63 = .ok (.lastore, 1) := by decide +kernel
theorem dX3_remove_64 : decode cX3_remove 64 = .ok (.iconst 0, 1) := by decide +kernel
theorem dX3_remove_65 : decode cX3_remove 65 = .ok (.istore 4, 2) := by decide +kernel
theorem dX3_remove_67 : decode cX3_remove 67 = .ok (.iload 4, 2) := by decide +kernel
theorem dX3_remove_69 : decode cX3_remove 69 = .ok (.iconst 4, 1) := by decide +kernel
theorem dX3_remove_70 : decode cX3_remove 70 = .ok (.if_icmp .ge 38, 3) := by decide +kernel
theorem dX3_remove_73 : decode cX3_remove 73 = .ok (.aload_n 0, 1) := by decide +kernel
theorem dX3_remove_74 : decode cX3_remove 74 = .ok (.getfield 15, 3) := by decide +kernel
theorem dX3_remove_77 : decode cX3_remove 77 = .ok (.iconst 4, 1) := by decide +kernel
theorem dX3_remove_78 : decode cX3_remove 78 = .ok (.iload_n 2, 1) := by decide +kernel
theorem dX3_remove_79 : decode cX3_remove 79 = .ok (.imul, 1) := by decide +kernel
theorem dX3_remove_80 : decode cX3_remove 80 = .ok (.iload_n 1, 1) := by decide +kernel
theorem dX3_remove_81 : decode cX3_remove 81 = .ok (.iload 4, 2) := by decide +kernel
theorem dX3_remove_83 : decode cX3_remove 83 = .ok (.imul, 1) := by decide +kernel
theorem dX3_remove_84 : decode cX3_remove 84 = .ok (.iconst 3, 1) := by decide +kernel
theorem dX3_remove_85 : decode cX3_remove 85 = .ok (.iand, 1) := by decide +kernel
theorem dX3_remove_86 : decode cX3_remove 86 = .ok (.iadd, 1) := by decide +kernel
theorem dX3_remove_87 : decode cX3_remove 87 = .ok (.dup2, 1) := by decide +kernel
theorem dX3_remove_88 : decode cX3_remove 88 = .ok (.iaload, 1) := by decide +kernel
theorem dX3_remove_89 : decode cX3_remove 89 = .ok (.aload_n 0, 1) := by decide +kernel
theorem dX3_remove_90 : decode cX3_remove 90 = .ok (.getfield 15, 3) := by decide +kernel
theorem dX3_remove_93 : decode cX3_remove 93 = .ok (.iconst 4, 1) := by decide +kernel
theorem dX3_remove_94 : decode cX3_remove 94 = .ok (.iload_n 3, 1) := by decide +kernel
theorem dX3_remove_95 : decode cX3_remove 95 = .ok (.imul, 1) := by decide +kernel
theorem dX3_remove_96 : decode cX3_remove 96 = .ok (.iload 4, 2) := by decide +kernel
theorem dX3_remove_98 : decode cX3_remove 98 = .ok (.iadd, 1) := by decide +kernel
theorem dX3_remove_99 : decode cX3_remove 99 = .ok (.iaload, 1) := by decide +kernel
theorem dX3_remove_100 : decode cX3_remove 100 = .ok (.isub, 1) := by decide +kernel
theorem dX3_remove_101 : decode cX3_remove 101 = .ok (.iastore, 1) := by decide +kernel
theorem dX3_remove_102 : decode cX3_remove 102 = .ok (.iinc 4 1, 3) := by decide +kernel
theorem dX3_remove_105 : decode cX3_remove 105 = .ok (.goto (-38), 3) := by decide +kernel
theorem dX3_remove_108 : decode cX3_remove 108 = .ok (.iinc 2 1, 3) := by decide +kernel
theorem dX3_remove_111 : decode cX3_remove 111 = .ok (.goto (-103), 3) := by decide +kernel
theorem dX3_remove_114 : decode cX3_remove 114 = .ok (.return_, 1) := by decide +kernel
theorem dX4_init_0 : decode cX4_init 0 = .ok (.aload_n 0, 1) := by decide +kernel
theorem dX4_init_1 : decode cX4_init 1 = .ok (.invokespecial 3, 3) := by decide +kernel
theorem dX4_init_4 : decode cX4_init 4 = .ok (.aload_n 0, 1) := by decide +kernel
theorem dX4_init_5 : decode cX4_init 5 = .ok (.bipush 60, 2) := by decide +kernel
theorem dX4_init_7 : decode cX4_init 7 = .ok (.newarray .char, 2) := by decide +kernel
theorem dX4_init_9 : decode cX4_init 9 = .ok (.putfield 9, 3) := by decide +kernel
theorem dX4_init_12 : decode cX4_init 12 = .ok (.return_, 1) := by decide +kernel
set_option maxRecDepth 20000 in
theorem ggX6_init_X4_init : GoodIn wsX6_init wsX4_init := goodIn_r _ [22, 23, 2, 3, 24, 25, 68, 69, 70, 71, 72, 73, 74] (by decide +kernel) (by decide +kernel)
set_option maxRecDepth 20000 in
theorem gX6_init_X4_init_n9 : GoodIn wsX6_init (wsX4_init) := ggX6_init_X4_init
set_option maxRecDepth 20000 in
theorem ggX6_init_X0_init : GoodIn wsX6_init wsX0_init := goodIn_r _ [28, 29, 2, 3, 30, 31, 32, 33, 34, 35, 36, 37, 38, 39, 40, 41, 42, 43, 44, 10, 45, 46, 47, 48, 49, 50, 51, 52, 53, 91, 92, 93, 94, 95, 80, 81, 82, 83, 84] (by decide +kernel) (by decide +kernel)
set_option maxRecDepth 20000 in
theorem gX6_init_X0_init : GoodIn wsX6_init (wsX0_init) := ggX6_init_X0_init
set_option maxRecDepth 20000 in
theorem ggX6_init_X2_init : GoodIn wsX6_init wsX2_init := goodIn_r _ [55, 56, 2, 3, 37, 57, 58, 40, 59, 85, 86, 87, 88, 89] (by decide +kernel) (by decide +kernel)
set_option maxRecDepth 20000 in
theorem gX6_init_X2_init_n25 : GoodIn wsX6_init (wsX2_init) := ggX6_init_X2_init
set_option maxRecDepth 20000 in
theorem ggX6_init_X1_init : GoodIn wsX6_init wsX1_init := goodIn_r _ [62, 63, 2, 3, 40, 64, 65, 66, 67, 90] (by decide +kernel) (by decide +kernel)
set_option maxRecDepth 20000 in
theorem gX6_init_X1_init : GoodIn wsX6_init (wsX1_init) := ggX6_init_X1_init
theorem dX6_init_0 : decode cX6_init 0 = .ok (.aload_n 0, 1) := by decide +kernel
theorem dX6_init_1 : decode cX6_init 1 = .ok (.invokespecial 1, 3) := by decide +kernel
theorem dX6_init_4 : decode cX6_init 4 = .ok (.aload_n 0, 1) := by decide +kernel
theorem dX6_init_5 : decode cX6_init 5 = .ok (.new 7, 3) := by decide +kernel
theorem dX6_init_8 : decode cX6_init 8 = .ok (.dup, 1) := by decide +kernel
theorem dX6_init_9 : decode cX6_init 9 = .ok (.invokespecial 9, 3) := by decide +kernel
theorem dX6_init_12 : decode cX6_init 12 = .ok (.putfield 10, 3) := by decide +kernel
theorem dX6_init_15 : decode cX6_init 15 = .ok (.aload_n 0, 1) := by decide +kernel
theorem dX6_init_16 : decode cX6_init 16 = .ok (.new 16, 3) := by decide +kernel
theorem dX6_init_19 : decode cX6_init 19 = .ok (.dup, 1) := by decide +kernel
theorem dX6_init_20 : decode cX6_init 20 = .ok (.invokespecial 18, 3) := by decide +kernel
theorem dX6_init_23 : decode cX6_init 23 = .ok (.putfield 19, 3) := by decide +kernel
theorem dX6_init_26 : decode cX6_init 26 = .ok (.aload_n 0, 1) := by decide +kernel
theorem dX6_init_27 : decode cX6_init 27 = .ok (.new 23, 3) := by decide +kernel
theorem dX6_init_30 : decode cX6_init 30 = .ok (.dup, 1) := by decide +kernel
theorem dX6_init_31 : decode cX6_init 31 = .ok (.invokespecial 25, 3) := by decide +kernel
theorem dX6_init_34 : decode cX6_init 34 = .ok (.putfield 26, 3) := by decide +kernel
theorem dX6_init_37 : decode cX6_init 37 = .ok (.aload_n 0, 1) := by decide +kernel
theorem dX6_init_38 : decode cX6_init 38 = .ok (.new 30, 3) := by decide +kernel
theorem dX6_init_41 : decode cX6_init 41 = .ok (.dup, 1) := by decide +kernel
theorem dX6_init_42 : decode cX6_init 42 = .ok (.invokespecial 32, 3) := by decide +kernel
theorem dX6_init_45 : decode cX6_init 45 = .ok (.putfield 33, 3) := by decide +kernel
theorem dX6_init_48 : decode cX6_init 48 = .ok (.aload_n 0, 1) := by decide +kernel
theorem dX6_init_49 : decode cX6_init 49 = .ok (.new 16, 3) := by decide +kernel
theorem dX6_init_52 : decode cX6_init 52 = .ok (.dup, 1) := by decide +kernel
theorem dX6_init_53 : decode cX6_init 53 = .ok (.invokespecial 18, 3) := by decide +kernel
theorem dX6_init_56 : decode cX6_init 56 = .ok (.putfield 37, 3) := by decide +kernel
theorem dX6_init_59 : decode cX6_init 59 = .ok (.return_, 1) := by decide +kernel
set_option maxRecDepth 20000 in
theorem ggX6_about_X0_tally : GoodIn wsX6_about wsX0_tally := goodIn_r _ [8, 9, 10, 11, 12, 13, 14, 15, 16, 17, 18, 19, 20, 21, 22, 23, 24, 25, 26, 27, 28, 29, 30, 31, 32, 33, 34, 35, 36, 37, 38, 7, 39, 40, 41, 42, 43, 44, 45, 46, 47, 48, 49, 50, 51, 52, 53, 54, 55, 56, 90, 91, 92, 93, 94, 95, 96, 97, 98, 99] (by decide +kernel) (by decide +kernel)
set_option maxRecDepth 20000 in
theorem gX6_about_X0_tally : GoodIn wsX6_about (wsV RX6 119 RX0 yX0_tally wsX0_tally) := goodIn_app (goodIn_of _ (by decide +kernel)) ggX6_about_X0_tally
set_option maxRecDepth 20000 in
theorem ggX6_about_J13_bitCount_95d88 : GoodIn wsX6_about wsJ13_bitCount_95d88 := goodIn_r _ [60, 61, 62, 63] (by decide +kernel) (by decide +kernel)
set_option maxRecDepth 20000 in
theorem gX6_about_J13_bitCount_95d88 : GoodIn wsX6_about (va_wsS RX6 132 yJ13_bitCount_95d88 wsJ13_bitCount_95d88) := goodIn_app (goodIn_of _ (by decide +kernel)) ggX6_about_J13_bitCount_95d88
set_option maxRecDepth 20000 in
theorem ggX6_about_X0_countLeft : GoodIn wsX6_about wsX0_countLeft := goodIn_r _ [67, 68, 5, 6, 7, 8, 9, 10, 11, 12, 13, 14, 15, 16, 17, 18, 19, 20, 21, 22, 23, 24, 25, 26, 27, 28, 29, 30, 31, 32, 33, 34, 35, 36, 37, 38, 39, 40, 41, 42, 43, 44, 45, 46, 47, 48, 49, 50, 51, 52, 53, 54, 55, 56, 69, 70, 71, 72, 73, 74, 75, 76, 77, 78, 79, 90, 91, 92, 93, 94, 95, 96, 97, 98, 99] (by decide +kernel) (by decide +kernel)
set_option maxRecDepth 20000 in
theorem gX6_about_X0_countLeft : GoodIn wsX6_about (wsV RX6 141 RX0 yX0_countLeft wsX0_countLeft) := goodIn_app (goodIn_of _ (by decide +kernel)) ggX6_about_X0_countLeft
set_option maxRecDepth 20000 in
theorem ggX6_about_X0_nextPrime : GoodIn wsX6_about wsX0_nextPrime := goodIn_r _ [83, 12, 11, 41, 42, 43, 7, 44, 90, 91, 92, 93, 94] (by decide +kernel) (by decide +kernel)
set_option maxRecDepth 20000 in
theorem gX6_about_X0_nextPrime : GoodIn wsX6_about (wsV RX6 144 RX0 yX0_nextPrime wsX0_nextPrime) := goodIn_app (goodIn_of _ (by decide +kernel)) ggX6_about_X0_nextPrime
set_option maxRecDepth 20000 in
theorem ggX6_about_X0_primeAt : GoodIn wsX6_about wsX0_primeAt := goodIn_r _ [44] (by decide +kernel) (by decide +kernel)
set_option maxRecDepth 20000 in
theorem gX6_about_X0_primeAt : GoodIn wsX6_about (wsV RX6 147 RX0 yX0_primeAt wsX0_primeAt) := goodIn_app (goodIn_of _ (by decide +kernel)) ggX6_about_X0_primeAt
theorem dX6_about_0 : decode cX6_about 0 = .ok (.iload_n 1, 1) := by decide +kernel
theorem dX6_about_1 : decode cX6_about 1 = .ok (.tableswitch 125 0 6 #[43, 51, 62, 73, 92, 100, 108], 43) := by decide +kernel
theorem dX6_about_44 : decode cX6_about 44 = .ok (.aload_n 0, 1) := by decide +kernel
theorem dX6_about_45 : decode cX6_about 45 = .ok (.getfield 19, 3) := by decide +kernel
theorem dX6_about_48 : decode cX6_about 48 = .ok (.getfield 103, 3) := by decide +kernel
theorem dX6_about_51 : decode cX6_about 51 = .ok (.ireturn, 1) := by decide +kernel
theorem dX6_about_52 : decode cX6_about 52 = .ok (.aload_n 0, 1) := by decide +kernel
theorem dX6_about_53 : decode cX6_about 53 = .ok (.getfield 19, 3) := by decide +kernel
theorem dX6_about_56 : decode cX6_about 56 = .ok (.invokevirtual 119, 3) := by decide +kernel
theorem dX6_about_59 : decode cX6_about 59 = .ok (.getfield 123, 3) := by decide +kernel
theorem dX6_about_62 : decode cX6_about 62 = .ok (.ireturn, 1) := by decide +kernel
theorem dX6_about_63 : decode cX6_about 63 = .ok (.aload_n 0, 1) := by decide +kernel
theorem dX6_about_64 : decode cX6_about 64 = .ok (.getfield 19, 3) := by decide +kernel
theorem dX6_about_67 : decode cX6_about 67 = .ok (.getfield 128, 3) := by decide +kernel
theorem dX6_about_70 : decode cX6_about 70 = .ok (.invokestatic 132, 3) := by decide +kernel
theorem dX6_about_73 : decode cX6_about 73 = .ok (.ireturn, 1) := by decide +kernel
theorem dX6_about_74 : decode cX6_about 74 = .ok (.aload_n 0, 1) := by decide +kernel
theorem dX6_about_75 : decode cX6_about 75 = .ok (.getfield 19, 3) := by decide +kernel
theorem dX6_about_78 : decode cX6_about 78 = .ok (.getfield 138, 3) := by decide +kernel
theorem dX6_about_81 : decode cX6_about 81 = .ok (.aload_n 0, 1) := by decide +kernel
theorem dX6_about_82 : decode cX6_about 82 = .ok (.getfield 19, 3) := by decide +kernel
theorem dX6_about_85 : decode cX6_about 85 = .ok (.getfield 128, 3) := by decide +kernel
theorem dX6_about_88 : decode cX6_about 88 = .ok (.invokestatic 132, 3) := by decide +kernel
theorem dX6_about_91 : decode cX6_about 91 = .ok (.isub, 1) := by decide +kernel
theorem dX6_about_92 : decode cX6_about 92 = .ok (.ireturn, 1) := by decide +kernel
theorem dX6_about_93 : decode cX6_about 93 = .ok (.aload_n 0, 1) := by decide +kernel
theorem dX6_about_94 : decode cX6_about 94 = .ok (.getfield 19, 3) := by decide +kernel
theorem dX6_about_97 : decode cX6_about 97 = .ok (.invokevirtual 141, 3) := by decide +kernel
theorem dX6_about_100 : decode cX6_about 100 = .ok (.ireturn, 1) := by decide +kernel
theorem dX6_about_101 : decode cX6_about 101 = .ok (.aload_n 0, 1) := by decide +kernel
theorem dX6_about_102 : decode cX6_about 102 = .ok (.getfield 19, 3) := by decide +kernel
theorem dX6_about_105 : decode cX6_about 105 = .ok (.invokevirtual 144, 3) := by decide +kernel
theorem dX6_about_108 : decode cX6_about 108 = .ok (.ireturn, 1) := by decide +kernel
theorem dX6_about_109 : decode cX6_about 109 = .ok (.aload_n 0, 1) := by decide +kernel
theorem dX6_about_110 : decode cX6_about 110 = .ok (.getfield 19, 3) := by decide +kernel
theorem dX6_about_113 : decode cX6_about 113 = .ok (.aload_n 0, 1) := by decide +kernel
theorem dX6_about_114 : decode cX6_about 114 = .ok (.getfield 19, 3) := by decide +kernel
theorem dX6_about_117 : decode cX6_about 117 = .ok (.getfield 138, 3) := by decide +kernel
theorem dX6_about_120 : decode cX6_about 120 = .ok (.iconst 1, 1) := by decide +kernel
theorem dX6_about_121 : decode cX6_about 121 = .ok (.isub, 1) := by decide +kernel
theorem dX6_about_122 : decode cX6_about 122 = .ok (.invokevirtual 147, 3) := by decide +kernel
theorem dX6_about_125 : decode cX6_about 125 = .ok (.ireturn, 1) := by decide +kernel
theorem dX6_about_126 : decode cX6_about 126 = .ok (.new 44, 3) := by decide +kernel
theorem dX6_about_129 : decode cX6_about 129 = .ok (.dup, 1) := by decide +kernel
theorem dX6_about_130 : decode cX6_about 130 = .ok (.ldc 151, 2) := by decide +kernel
theorem dX6_about_132 : decode cX6_about 132 = .ok (.invokespecial 48, 3) := by decide +kernel
theorem dX6_about_135 : decode cX6_about 135 = .ok (.athrow, 1) := by decide +kernel
set_option maxRecDepth 20000 in
theorem ggX6_quotient_X6_checkQuotient : GoodIn wsX6_quotient wsX6_checkQuotient := goodIn_ca (goodIn_r _ [6, 7, 8, 1, 9, 10, 11, 12, 13, 14, 15, 16, 17, 18, 19, 20, 21, 22, 23, 24, 25, 26, 27, 28, 29, 30, 31, 32, 33, 34, 35, 36, 37, 38, 39, 40, 41, 42, 43, 44, 45, 46, 47, 48, 49, 50, 51, 52, 53, 54, 55, 56, 57, 58, 59, 60, 61, 63, 64, 65, 66, 67, 68, 69, 70, 71, 72, 73, 74, 75, 76, 77] (by decide +kernel) (by decide +kernel)) (goodIn_sub (fun _ h => List.mem_cons_of_mem _ (List.mem_append_right _ h)) (by decide +kernel))
set_option maxRecDepth 20000 in
theorem gX6_quotient_X6_checkQuotient : GoodIn wsX6_quotient (wsV RX6 153 RX6 yX6_checkQuotient wsX6_checkQuotient) := goodIn_app (goodIn_of _ (by decide +kernel)) ggX6_quotient_X6_checkQuotient
set_option maxRecDepth 20000 in
theorem ggX6_quotient_X0_tally : GoodIn wsX6_quotient wsX0_tally := goodIn_r _ [13, 14, 15, 16, 17, 18, 19, 20, 21, 22, 23, 24, 25, 26, 27, 28, 29, 30, 31, 32, 33, 34, 35, 36, 37, 38, 39, 40, 41, 42, 43, 12, 44, 45, 46, 47, 48, 49, 50, 51, 52, 53, 54, 55, 56, 57, 58, 59, 60, 61, 73, 74, 75, 76, 77, 68, 69, 70, 71, 72] (by decide +kernel) (by decide +kernel)
set_option maxRecDepth 20000 in
theorem gX6_quotient_X0_tally : GoodIn wsX6_quotient (wsV RX6 119 RX0 yX0_tally wsX0_tally) := goodIn_app (goodIn_of _ (by decide +kernel)) ggX6_quotient_X0_tally
set_option maxRecDepth 20000 in
theorem ggX6_quotient_X3_valueAt : GoodIn wsX6_quotient wsX3_valueAt := goodIn_r _ [57, 33, 37, 38, 39, 21, 40, 24, 68, 69, 70, 71, 72] (by decide +kernel) (by decide +kernel)
set_option maxRecDepth 20000 in
theorem gX6_quotient_X3_valueAt : GoodIn wsX6_quotient (wsV RX6 156 RX3 yX3_valueAt wsX3_valueAt) := goodIn_app (goodIn_of _ (by decide +kernel)) ggX6_quotient_X3_valueAt
theorem dX6_quotient_0 : decode cX6_quotient 0 = .ok (.aload_n 0, 1) := by decide +kernel
theorem dX6_quotient_1 : decode cX6_quotient 1 = .ok (.iload_n 1, 1) := by decide +kernel
theorem dX6_quotient_2 : decode cX6_quotient 2 = .ok (.invokevirtual 153, 3) := by decide +kernel
theorem dX6_quotient_5 : decode cX6_quotient 5 = .ok (.aload_n 0, 1) := by decide +kernel
theorem dX6_quotient_6 : decode cX6_quotient 6 = .ok (.getfield 19, 3) := by decide +kernel
theorem dX6_quotient_9 : decode cX6_quotient 9 = .ok (.invokevirtual 119, 3) := by decide +kernel
theorem dX6_quotient_12 : decode cX6_quotient 12 = .ok (.iload_n 1, 1) := by decide +kernel
theorem dX6_quotient_13 : decode cX6_quotient 13 = .ok (.invokevirtual 156, 3) := by decide +kernel
theorem dX6_quotient_16 : decode cX6_quotient 16 = .ok (.ireturn, 1) := by decide +kernel
set_option maxRecDepth 20000 in
theorem ggX6_quotientOf_X0_tally : GoodIn wsX6_quotientOf wsX0_tally := goodIn_r _ [6, 7, 8, 9, 10, 11, 12, 13, 14, 15, 16, 17, 18, 19, 20, 21, 22, 23, 24, 25, 26, 27, 28, 29, 30, 31, 32, 33, 34, 35, 36, 5, 37, 38, 39, 40, 41, 42, 43, 44, 45, 46, 47, 48, 49, 50, 51, 52, 53, 54, 61, 62, 63, 64, 65, 66, 67, 68, 69, 70] (by decide +kernel) (by decide +kernel)
set_option maxRecDepth 20000 in
theorem gX6_quotientOf_X0_tally : GoodIn wsX6_quotientOf (wsV RX6 119 RX0 yX0_tally wsX0_tally) := goodIn_app (goodIn_of _ (by decide +kernel)) ggX6_quotientOf_X0_tally
set_option maxRecDepth 20000 in
theorem ggX6_quotientOf_X3_placeOf : GoodIn wsX6_quotientOf wsX3_placeOf := goodIn_r _ [54, 16, 17, 66, 67, 68, 69, 70] (by decide +kernel) (by decide +kernel)
set_option maxRecDepth 20000 in
theorem gX6_quotientOf_X3_placeOf : GoodIn wsX6_quotientOf (wsV RX6 159 RX3 yX3_placeOf wsX3_placeOf) := goodIn_app (goodIn_of _ (by decide +kernel)) ggX6_quotientOf_X3_placeOf
theorem dX6_quotientOf_0 : decode cX6_quotientOf 0 = .ok (.aload_n 0, 1) := by decide +kernel
theorem dX6_quotientOf_1 : decode cX6_quotientOf 1 = .ok (.getfield 19, 3) := by decide +kernel
theorem dX6_quotientOf_4 : decode cX6_quotientOf 4 = .ok (.invokevirtual 119, 3) := by decide +kernel
theorem dX6_quotientOf_7 : decode cX6_quotientOf 7 = .ok (.iload_n 1, 1) := by decide +kernel
theorem dX6_quotientOf_8 : decode cX6_quotientOf 8 = .ok (.invokevirtual 159, 3) := by decide +kernel
theorem dX6_quotientOf_11 : decode cX6_quotientOf 11 = .ok (.ireturn, 1) := by decide +kernel
set_option maxRecDepth 20000 in
theorem ggX6_left_X6_checkQuotient : GoodIn wsX6_left wsX6_checkQuotient := goodIn_ca (goodIn_r _ [6, 7, 8, 1, 9, 10, 11, 12, 13, 14, 15, 16, 17, 18, 19, 20, 21, 22, 23, 24, 25, 26, 27, 28, 29, 30, 31, 32, 33, 34, 35, 36, 37, 38, 39, 40, 41, 42, 43, 44, 45, 46, 47, 48, 49, 50, 51, 52, 53, 54, 55, 56, 57, 58, 59, 60, 61, 72, 73, 74, 75, 76, 77, 78, 79, 80, 81, 82, 83, 84, 85, 86] (by decide +kernel) (by decide +kernel)) (goodIn_sub (fun _ h => List.mem_cons_of_mem _ (List.mem_append_right _ h)) (by decide +kernel))
set_option maxRecDepth 20000 in
theorem gX6_left_X6_checkQuotient : GoodIn wsX6_left (wsV RX6 153 RX6 yX6_checkQuotient wsX6_checkQuotient) := goodIn_app (goodIn_of _ (by decide +kernel)) ggX6_left_X6_checkQuotient
set_option maxRecDepth 20000 in
theorem ggX6_left_X0_tally : GoodIn wsX6_left wsX0_tally := goodIn_r _ [13, 14, 15, 16, 17, 18, 19, 20, 21, 22, 23, 24, 25, 26, 27, 28, 29, 30, 31, 32, 33, 34, 35, 36, 37, 38, 39, 40, 41, 42, 43, 12, 44, 45, 46, 47, 48, 49, 50, 51, 52, 53, 54, 55, 56, 57, 58, 59, 60, 61, 82, 83, 84, 85, 86, 77, 78, 79, 80, 81] (by decide +kernel) (by decide +kernel)
set_option maxRecDepth 20000 in
theorem gX6_left_X0_tally : GoodIn wsX6_left (wsV RX6 119 RX0 yX0_tally wsX0_tally) := goodIn_app (goodIn_of _ (by decide +kernel)) ggX6_left_X0_tally
set_option maxRecDepth 20000 in
theorem ggX6_left_X3_countAt : GoodIn wsX6_left wsX3_countAt := goodIn_r _ [65, 66, 67, 68, 21, 69, 36, 37, 38, 39, 40, 24, 70, 5, 71, 77, 78, 79, 80, 81] (by decide +kernel) (by decide +kernel)
set_option maxRecDepth 20000 in
theorem gX6_left_X3_countAt : GoodIn wsX6_left (wsV RX6 162 RX3 yX3_countAt wsX3_countAt) := goodIn_app (goodIn_of _ (by decide +kernel)) ggX6_left_X3_countAt
theorem dX6_left_0 : decode cX6_left 0 = .ok (.aload_n 0, 1) := by decide +kernel
theorem dX6_left_1 : decode cX6_left 1 = .ok (.iload_n 1, 1) := by decide +kernel
theorem dX6_left_2 : decode cX6_left 2 = .ok (.invokevirtual 153, 3) := by decide +kernel
theorem dX6_left_5 : decode cX6_left 5 = .ok (.aload_n 0, 1) := by decide +kernel
theorem dX6_left_6 : decode cX6_left 6 = .ok (.getfield 19, 3) := by decide +kernel
theorem dX6_left_9 : decode cX6_left 9 = .ok (.invokevirtual 119, 3) := by decide +kernel
theorem dX6_left_12 : decode cX6_left 12 = .ok (.iload_n 1, 1) := by decide +kernel
theorem dX6_left_13 : decode cX6_left 13 = .ok (.invokevirtual 162, 3) := by decide +kernel
theorem dX6_left_16 : decode cX6_left 16 = .ok (.ireturn, 1) := by decide +kernel
set_option maxRecDepth 20000 in
theorem ggX6_sumLeft_X6_checkQuotient : GoodIn wsX6_sumLeft wsX6_checkQuotient := goodIn_ca (goodIn_r _ [6, 7, 8, 1, 9, 10, 11, 12, 13, 14, 15, 16, 17, 18, 19, 20, 21, 22, 23, 24, 25, 26, 27, 28, 29, 30, 31, 32, 33, 34, 35, 36, 37, 38, 39, 40, 41, 42, 43, 44, 45, 46, 47, 48, 49, 50, 51, 52, 53, 54, 55, 56, 57, 58, 59, 60, 61, 66, 67, 68, 69, 70, 71, 72, 73, 74, 75, 76, 77, 78, 79, 80] (by decide +kernel) (by decide +kernel)) (goodIn_sub (fun _ h => List.mem_cons_of_mem _ (List.mem_append_right _ h)) (by decide +kernel))
set_option maxRecDepth 20000 in
theorem gX6_sumLeft_X6_checkQuotient : GoodIn wsX6_sumLeft (wsV RX6 153 RX6 yX6_checkQuotient wsX6_checkQuotient) := goodIn_app (goodIn_of _ (by decide +kernel)) ggX6_sumLeft_X6_checkQuotient
set_option maxRecDepth 20000 in
theorem ggX6_sumLeft_X0_tally : GoodIn wsX6_sumLeft wsX0_tally := goodIn_r _ [13, 14, 15, 16, 17, 18, 19, 20, 21, 22, 23, 24, 25, 26, 27, 28, 29, 30, 31, 32, 33, 34, 35, 36, 37, 38, 39, 40, 41, 42, 43, 12, 44, 45, 46, 47, 48, 49, 50, 51, 52, 53, 54, 55, 56, 57, 58, 59, 60, 61, 76, 77, 78, 79, 80, 71, 72, 73, 74, 75] (by decide +kernel) (by decide +kernel)
set_option maxRecDepth 20000 in
theorem gX6_sumLeft_X0_tally : GoodIn wsX6_sumLeft (wsV RX6 119 RX0 yX0_tally wsX0_tally) := goodIn_app (goodIn_of _ (by decide +kernel)) ggX6_sumLeft_X0_tally
set_option maxRecDepth 20000 in
theorem ggX6_sumLeft_X3_sumAt : GoodIn wsX6_sumLeft wsX3_sumAt := goodIn_r _ [65, 34, 37, 38, 39, 21, 40, 24, 71, 72, 73, 74, 75] (by decide +kernel) (by decide +kernel)
set_option maxRecDepth 20000 in
theorem gX6_sumLeft_X3_sumAt : GoodIn wsX6_sumLeft (wsV RX6 165 RX3 yX3_sumAt wsX3_sumAt) := goodIn_app (goodIn_of _ (by decide +kernel)) ggX6_sumLeft_X3_sumAt
theorem dX6_sumLeft_0 : decode cX6_sumLeft 0 = .ok (.aload_n 0, 1) := by decide +kernel
theorem dX6_sumLeft_1 : decode cX6_sumLeft 1 = .ok (.iload_n 1, 1) := by decide +kernel
theorem dX6_sumLeft_2 : decode cX6_sumLeft 2 = .ok (.invokevirtual 153, 3) := by decide +kernel
theorem dX6_sumLeft_5 : decode cX6_sumLeft 5 = .ok (.aload_n 0, 1) := by decide +kernel
theorem dX6_sumLeft_6 : decode cX6_sumLeft 6 = .ok (.getfield 19, 3) := by decide +kernel
theorem dX6_sumLeft_9 : decode cX6_sumLeft 9 = .ok (.invokevirtual 119, 3) := by decide +kernel
theorem dX6_sumLeft_12 : decode cX6_sumLeft 12 = .ok (.iload_n 1, 1) := by decide +kernel
theorem dX6_sumLeft_13 : decode cX6_sumLeft 13 = .ok (.invokevirtual 165, 3) := by decide +kernel
theorem dX6_sumLeft_16 : decode cX6_sumLeft 16 = .ok (.lreturn, 1) := by decide +kernel
set_option maxRecDepth 20000 in
theorem ggX6_restLeft_X6_checkQuotient : GoodIn wsX6_restLeft wsX6_checkQuotient := goodIn_ca (goodIn_r _ [8, 9, 10, 3, 11, 12, 13, 14, 15, 16, 17, 18, 19, 20, 21, 22, 23, 24, 25, 26, 27, 28, 29, 30, 31, 32, 33, 34, 35, 36, 37, 38, 39, 40, 41, 42, 43, 44, 45, 46, 47, 48, 49, 50, 51, 52, 53, 54, 55, 56, 57, 58, 59, 60, 61, 62, 63, 71, 72, 73, 74, 75, 76, 77, 78, 79, 80, 81, 82, 83, 84, 85] (by decide +kernel) (by decide +kernel)) (goodIn_sub (fun _ h => List.mem_cons_of_mem _ (List.mem_append_right _ h)) (by decide +kernel))
set_option maxRecDepth 20000 in
theorem gX6_restLeft_X6_checkQuotient : GoodIn wsX6_restLeft (wsV RX6 153 RX6 yX6_checkQuotient wsX6_checkQuotient) := goodIn_app (goodIn_of _ (by decide +kernel)) ggX6_restLeft_X6_checkQuotient
set_option maxRecDepth 20000 in
theorem ggX6_restLeft_X6_outside : GoodIn wsX6_restLeft wsX6_outside := goodIn_r _ [66] (by decide +kernel) (by decide +kernel)
set_option maxRecDepth 20000 in
theorem gX6_restLeft_X6_outside : GoodIn wsX6_restLeft (va_wsS RX6 40 yX6_outside wsX6_outside) := goodIn_app (goodIn_of _ (by decide +kernel)) ggX6_restLeft_X6_outside
set_option maxRecDepth 20000 in
theorem ggX6_restLeft_X0_tally : GoodIn wsX6_restLeft wsX0_tally := goodIn_r _ [15, 16, 17, 18, 19, 20, 21, 22, 23, 24, 25, 26, 27, 28, 29, 30, 31, 32, 33, 34, 35, 36, 37, 38, 39, 40, 41, 42, 43, 44, 45, 14, 46, 47, 48, 49, 50, 51, 52, 53, 54, 55, 56, 57, 58, 59, 60, 61, 62, 63, 81, 82, 83, 84, 85, 76, 77, 78, 79, 80] (by decide +kernel) (by decide +kernel)
set_option maxRecDepth 20000 in
theorem gX6_restLeft_X0_tally : GoodIn wsX6_restLeft (wsV RX6 119 RX0 yX0_tally wsX0_tally) := goodIn_app (goodIn_of _ (by decide +kernel)) ggX6_restLeft_X0_tally
set_option maxRecDepth 20000 in
theorem ggX6_restLeft_X3_restAt : GoodIn wsX6_restLeft wsX3_restAt := goodIn_r _ [70, 38, 39, 40, 41, 23, 42, 26, 65, 7, 66, 76, 77, 78, 79, 80] (by decide +kernel) (by decide +kernel)
set_option maxRecDepth 20000 in
theorem gX6_restLeft_X3_restAt : GoodIn wsX6_restLeft (wsV RX6 171 RX3 yX3_restAt wsX3_restAt) := goodIn_app (goodIn_of _ (by decide +kernel)) ggX6_restLeft_X3_restAt
theorem dX6_restLeft_0 : decode cX6_restLeft 0 = .ok (.aload_n 0, 1) := by decide +kernel
theorem dX6_restLeft_1 : decode cX6_restLeft 1 = .ok (.iload_n 1, 1) := by decide +kernel
theorem dX6_restLeft_2 : decode cX6_restLeft 2 = .ok (.invokevirtual 153, 3) := by decide +kernel
theorem dX6_restLeft_5 : decode cX6_restLeft 5 = .ok (.iload_n 2, 1) := by decide +kernel
theorem dX6_restLeft_6 : decode cX6_restLeft 6 = .ok (.iconst 0, 1) := by decide +kernel
theorem dX6_restLeft_7 : decode cX6_restLeft 7 = .ok (.iconst 3, 1) := by decide +kernel
theorem dX6_restLeft_8 : decode cX6_restLeft 8 = .ok (.invokestatic 40, 3) := by decide +kernel
theorem dX6_restLeft_11 : decode cX6_restLeft 11 = .ok (.ifCond .eq 13, 3) := by decide +kernel
theorem dX6_restLeft_14 : decode cX6_restLeft 14 = .ok (.new 44, 3) := by decide +kernel
theorem dX6_restLeft_17 : decode cX6_restLeft 17 = .ok (.dup, 1) := by decide +kernel
theorem dX6_restLeft_18 : decode cX6_restLeft 18 = .ok (.ldc 169, 2) := by decide +kernel
theorem dX6_restLeft_20 : decode cX6_restLeft 20 = .ok (.invokespecial 48, 3) := by decide +kernel
theorem dX6_restLeft_23 : decode cX6_restLeft 23 = .ok (.athrow, 1) := by decide +kernel
theorem dX6_restLeft_24 : decode cX6_restLeft 24 = .ok (.aload_n 0, 1) := by decide +kernel
theorem dX6_restLeft_25 : decode cX6_restLeft 25 = .ok (.getfield 19, 3) := by decide +kernel
theorem dX6_restLeft_28 : decode cX6_restLeft 28 = .ok (.invokevirtual 119, 3) := by decide +kernel
theorem dX6_restLeft_31 : decode cX6_restLeft 31 = .ok (.iload_n 1, 1) := by decide +kernel
theorem dX6_restLeft_32 : decode cX6_restLeft 32 = .ok (.iload_n 2, 1) := by decide +kernel
theorem dX6_restLeft_33 : decode cX6_restLeft 33 = .ok (.invokevirtual 171, 3) := by decide +kernel
theorem dX6_restLeft_36 : decode cX6_restLeft 36 = .ok (.ireturn, 1) := by decide +kernel
set_option maxRecDepth 20000 in
theorem ggX6_came_X0_primeAt : GoodIn wsX6_came wsX0_primeAt := goodIn_r _ [8] (by decide +kernel) (by decide +kernel)
set_option maxRecDepth 20000 in
theorem gX6_came_X0_primeAt : GoodIn wsX6_came (wsV RX6 147 RX0 yX0_primeAt wsX0_primeAt) := goodIn_app (goodIn_of _ (by decide +kernel)) ggX6_came_X0_primeAt
set_option maxRecDepth 20000 in
theorem ggX6_came_X0_hasStruck : GoodIn wsX6_came wsX0_hasStruck := goodIn_r _ [12, 13, 19, 20, 21, 22, 23] (by decide +kernel) (by decide +kernel)
set_option maxRecDepth 20000 in
theorem gX6_came_X0_hasStruck : GoodIn wsX6_came (wsV RX6 176 RX0 yX0_hasStruck wsX0_hasStruck) := goodIn_app (goodIn_of _ (by decide +kernel)) ggX6_came_X0_hasStruck
theorem dX6_came_0 : decode cX6_came 0 = .ok (.iload_n 1, 1) := by decide +kernel
theorem dX6_came_1 : decode cX6_came 1 = .ok (.ifCond .ge 13, 3) := by decide +kernel
theorem dX6_came_4 : decode cX6_came 4 = .ok (.new 44, 3) := by decide +kernel
theorem dX6_came_7 : decode cX6_came 7 = .ok (.dup, 1) := by decide +kernel
theorem dX6_came_8 : decode cX6_came 8 = .ok (.ldc 174, 2) := by decide +kernel
theorem dX6_came_10 : decode cX6_came 10 = .ok (.invokespecial 48, 3) := by decide +kernel
theorem dX6_came_13 : decode cX6_came 13 = .ok (.athrow, 1) := by decide +kernel
theorem dX6_came_14 : decode cX6_came 14 = .ok (.iload_n 1, 1) := by decide +kernel
theorem dX6_came_15 : decode cX6_came 15 = .ok (.aload_n 0, 1) := by decide +kernel
theorem dX6_came_16 : decode cX6_came 16 = .ok (.getfield 19, 3) := by decide +kernel
theorem dX6_came_19 : decode cX6_came 19 = .ok (.getfield 138, 3) := by decide +kernel
theorem dX6_came_22 : decode cX6_came 22 = .ok (.if_icmp .lt 5, 3) := by decide +kernel
theorem dX6_came_25 : decode cX6_came 25 = .ok (.iconst 0, 1) := by decide +kernel
theorem dX6_came_26 : decode cX6_came 26 = .ok (.ireturn, 1) := by decide +kernel
theorem dX6_came_27 : decode cX6_came 27 = .ok (.aload_n 0, 1) := by decide +kernel
theorem dX6_came_28 : decode cX6_came 28 = .ok (.getfield 19, 3) := by decide +kernel
theorem dX6_came_31 : decode cX6_came 31 = .ok (.iload_n 1, 1) := by decide +kernel
theorem dX6_came_32 : decode cX6_came 32 = .ok (.invokevirtual 147, 3) := by decide +kernel
theorem dX6_came_35 : decode cX6_came 35 = .ok (.istore_n 2, 1) := by decide +kernel
theorem dX6_came_36 : decode cX6_came 36 = .ok (.aload_n 0, 1) := by decide +kernel
theorem dX6_came_37 : decode cX6_came 37 = .ok (.getfield 19, 3) := by decide +kernel
theorem dX6_came_40 : decode cX6_came 40 = .ok (.iload_n 1, 1) := by decide +kernel
theorem dX6_came_41 : decode cX6_came 41 = .ok (.invokevirtual 176, 3) := by decide +kernel
theorem dX6_came_44 : decode cX6_came 44 = .ok (.ifCond .eq 7, 3) := by decide +kernel
theorem dX6_came_47 : decode cX6_came 47 = .ok (.iload_n 2, 1) := by decide +kernel
theorem dX6_came_48 : decode cX6_came 48 = .ok (.goto 5, 3) := by decide +kernel
theorem dX6_came_51 : decode cX6_came 51 = .ok (.iload_n 2, 1) := by decide +kernel
theorem dX6_came_52 : decode cX6_came 52 = .ok (.ineg, 1) := by decide +kernel
theorem dX6_came_53 : decode cX6_came 53 = .ok (.ireturn, 1) := by decide +kernel
set_option maxRecDepth 20000 in
theorem ggX6_bound_X6_outside : GoodIn wsX6_bound wsX6_outside := goodIn_r _ [9] (by decide +kernel) (by decide +kernel)
set_option maxRecDepth 20000 in
theorem gX6_bound_X6_outside : GoodIn wsX6_bound (va_wsS RX6 40 yX6_outside wsX6_outside) := goodIn_app (goodIn_of _ (by decide +kernel)) ggX6_bound_X6_outside
set_option maxRecDepth 20000 in
theorem ggX6_bound_X2_remember : GoodIn wsX6_bound wsX2_remember := goodIn_r _ [14, 15, 16, 17, 18, 19, 20, 21, 22, 23, 13, 24, 25, 26, 27, 7, 8, 9, 51, 52, 53, 54, 55, 46, 47, 48, 49, 50] (by decide +kernel) (by decide +kernel)
set_option maxRecDepth 20000 in
theorem gX6_bound_X2_remember : GoodIn wsX6_bound (wsV RX6 183 RX2 yX2_remember wsX2_remember) := goodIn_app (goodIn_of _ (by decide +kernel)) ggX6_bound_X2_remember
set_option maxRecDepth 20000 in
theorem ggX6_bound_X0_begin : GoodIn wsX6_bound wsX0_begin := goodIn_r _ [32, 33, 34, 35, 31, 36, 37, 38, 39, 40, 46, 47, 48, 49, 50] (by decide +kernel) (by decide +kernel)
set_option maxRecDepth 20000 in
theorem gX6_bound_X0_begin : GoodIn wsX6_bound (wsV RX6 73 RX0 yX0_begin wsX0_begin) := goodIn_app (goodIn_of _ (by decide +kernel)) ggX6_bound_X0_begin
theorem dX6_bound_0 : decode cX6_bound 0 = .ok (.iload_n 1, 1) := by decide +kernel
theorem dX6_bound_1 : decode cX6_bound 1 = .ok (.iconst 1, 1) := by decide +kernel
theorem dX6_bound_2 : decode cX6_bound 2 = .ok (.ldc 180, 2) := by decide +kernel
theorem dX6_bound_4 : decode cX6_bound 4 = .ok (.invokestatic 40, 3) := by decide +kernel
theorem dX6_bound_7 : decode cX6_bound 7 = .ok (.ifCond .eq 13, 3) := by decide +kernel
theorem dX6_bound_10 : decode cX6_bound 10 = .ok (.new 44, 3) := by decide +kernel
theorem dX6_bound_13 : decode cX6_bound 13 = .ok (.dup, 1) := by decide +kernel
theorem dX6_bound_14 : decode cX6_bound 14 = .ok (.ldc 181, 2) := by decide +kernel
theorem dX6_bound_16 : decode cX6_bound 16 = .ok (.invokespecial 48, 3) := by decide +kernel
theorem dX6_bound_19 : decode cX6_bound 19 = .ok (.athrow, 1) := by decide +kernel
theorem dX6_bound_20 : decode cX6_bound 20 = .ok (.aload_n 0, 1) := by decide +kernel
theorem dX6_bound_21 : decode cX6_bound 21 = .ok (.getfield 26, 3) := by decide +kernel
theorem dX6_bound_24 : decode cX6_bound 24 = .ok (.aload_n 0, 1) := by decide +kernel
theorem dX6_bound_25 : decode cX6_bound 25 = .ok (.getfield 19, 3) := by decide +kernel
theorem dX6_bound_28 : decode cX6_bound 28 = .ok (.invokevirtual 183, 3) := by decide +kernel
theorem dX6_bound_31 : decode cX6_bound 31 = .ok (.aload_n 0, 1) := by decide +kernel
theorem dX6_bound_32 : decode cX6_bound 32 = .ok (.getfield 19, 3) := by decide +kernel
theorem dX6_bound_35 : decode cX6_bound 35 = .ok (.getfield 103, 3) := by decide +kernel
theorem dX6_bound_38 : decode cX6_bound 38 = .ok (.istore_n 2, 1) := by decide +kernel
theorem dX6_bound_39 : decode cX6_bound 39 = .ok (.aload_n 0, 1) := by decide +kernel
theorem dX6_bound_40 : decode cX6_bound 40 = .ok (.getfield 19, 3) := by decide +kernel
theorem dX6_bound_43 : decode cX6_bound 43 = .ok (.iload_n 1, 1) := by decide +kernel
theorem dX6_bound_44 : decode cX6_bound 44 = .ok (.invokevirtual 73, 3) := by decide +kernel
theorem dX6_bound_47 : decode cX6_bound 47 = .ok (.iload_n 2, 1) := by decide +kernel
theorem dX6_bound_48 : decode cX6_bound 48 = .ok (.ireturn, 1) := by decide +kernel
set_option maxRecDepth 20000 in
theorem ggX6_strike_X6_checkNextPrime : GoodIn wsX6_strike wsX6_checkNextPrime := goodIn_ca (goodIn_r _ [7, 8, 9, 2, 10, 11, 12, 13, 14, 15, 16, 17, 18, 19, 20, 103, 104, 105, 106, 107, 108, 109, 110, 111, 112] (by decide +kernel) (by decide +kernel)) (goodIn_sub (fun _ h => List.mem_cons_of_mem _ (List.mem_append_right _ h)) (by decide +kernel))
set_option maxRecDepth 20000 in
theorem gX6_strike_X6_checkNextPrime : GoodIn wsX6_strike (wsV RX6 187 RX6 yX6_checkNextPrime wsX6_checkNextPrime) := goodIn_app (goodIn_of _ (by decide +kernel)) ggX6_strike_X6_checkNextPrime
set_option maxRecDepth 20000 in
theorem ggX6_strike_X2_remember : GoodIn wsX6_strike wsX2_remember := goodIn_r _ [25, 26, 27, 28, 29, 30, 31, 32, 33, 34, 24, 35, 36, 37, 38, 39, 6, 40, 113, 114, 115, 116, 117, 108, 109, 110, 111, 112] (by decide +kernel) (by decide +kernel)
set_option maxRecDepth 20000 in
theorem gX6_strike_X2_remember : GoodIn wsX6_strike (wsV RX6 183 RX2 yX2_remember wsX2_remember) := goodIn_app (goodIn_of _ (by decide +kernel)) ggX6_strike_X2_remember
set_option maxRecDepth 20000 in
theorem ggX6_strike_X0_countLeft : GoodIn wsX6_strike wsX0_countLeft := goodIn_r _ [44, 45, 46, 47, 13, 48, 49, 50, 16, 15, 51, 52, 53, 54, 55, 56, 57, 58, 59, 30, 60, 61, 62, 63, 64, 65, 66, 67, 68, 69, 70, 71, 72, 73, 74, 75, 76, 77, 17, 18, 19, 20, 78, 79, 80, 81, 82, 83, 84, 85, 86, 87, 88, 89, 90, 91, 92, 93, 94, 95, 96, 97, 39, 6, 40, 108, 109, 110, 111, 112, 118, 119, 120, 121, 122] (by decide +kernel) (by decide +kernel)
set_option maxRecDepth 20000 in
theorem gX6_strike_X0_countLeft : GoodIn wsX6_strike (wsV RX6 141 RX0 yX0_countLeft wsX0_countLeft) := goodIn_app (goodIn_of _ (by decide +kernel)) ggX6_strike_X0_countLeft
set_option maxRecDepth 20000 in
theorem ggX6_strike_X0_letCome : GoodIn wsX6_strike wsX0_letCome := goodIn_r _ [101, 77, 15, 102, 11, 12, 13, 14, 16, 17, 18, 19, 20, 108, 109, 110, 111, 112] (by decide +kernel) (by decide +kernel)
set_option maxRecDepth 20000 in
theorem gX6_strike_X0_letCome : GoodIn wsX6_strike (wsV RX6 115 RX0 yX0_letCome wsX0_letCome) := goodIn_app (goodIn_of _ (by decide +kernel)) ggX6_strike_X0_letCome
theorem dX6_strike_0 : decode cX6_strike 0 = .ok (.aload_n 0, 1) := by decide +kernel
theorem dX6_strike_1 : decode cX6_strike 1 = .ok (.invokevirtual 187, 3) := by decide +kernel
theorem dX6_strike_4 : decode cX6_strike 4 = .ok (.aload_n 0, 1) := by decide +kernel
theorem dX6_strike_5 : decode cX6_strike 5 = .ok (.getfield 26, 3) := by decide +kernel
theorem dX6_strike_8 : decode cX6_strike 8 = .ok (.aload_n 0, 1) := by decide +kernel
theorem dX6_strike_9 : decode cX6_strike 9 = .ok (.getfield 19, 3) := by decide +kernel
theorem dX6_strike_12 : decode cX6_strike 12 = .ok (.invokevirtual 183, 3) := by decide +kernel
theorem dX6_strike_15 : decode cX6_strike 15 = .ok (.aload_n 0, 1) := by decide +kernel
theorem dX6_strike_16 : decode cX6_strike 16 = .ok (.getfield 19, 3) := by decide +kernel
theorem dX6_strike_19 : decode cX6_strike 19 = .ok (.invokevirtual 141, 3) := by decide +kernel
theorem dX6_strike_22 : decode cX6_strike 22 = .ok (.istore_n 1, 1) := by decide +kernel
theorem dX6_strike_23 : decode cX6_strike 23 = .ok (.aload_n 0, 1) := by decide +kernel
theorem dX6_strike_24 : decode cX6_strike 24 = .ok (.getfield 19, 3) := by decide +kernel
theorem dX6_strike_27 : decode cX6_strike 27 = .ok (.iconst 1, 1) := by decide +kernel
theorem dX6_strike_28 : decode cX6_strike 28 = .ok (.invokevirtual 115, 3) := by decide +kernel
theorem dX6_strike_31 : decode cX6_strike 31 = .ok (.pop, 1) := by decide +kernel
theorem dX6_strike_32 : decode cX6_strike 32 = .ok (.iload_n 1, 1) := by decide +kernel
theorem dX6_strike_33 : decode cX6_strike 33 = .ok (.aload_n 0, 1) := by decide +kernel
theorem dX6_strike_34 : decode cX6_strike 34 = .ok (.getfield 19, 3) := by decide +kernel
theorem dX6_strike_37 : decode cX6_strike 37 = .ok (.invokevirtual 141, 3) := by decide +kernel
theorem dX6_strike_40 : decode cX6_strike 40 = .ok (.isub, 1) := by decide +kernel
theorem dX6_strike_41 : decode cX6_strike 41 = .ok (.ireturn, 1) := by decide +kernel
set_option maxRecDepth 20000 in
theorem ggX6_spare_X6_checkNextPrime : GoodIn wsX6_spare wsX6_checkNextPrime := goodIn_ca (goodIn_r _ [7, 8, 9, 2, 10, 11, 12, 13, 14, 15, 16, 17, 18, 19, 20, 47, 48, 49, 50, 51, 52, 53, 54, 55, 56] (by decide +kernel) (by decide +kernel)) (goodIn_sub (fun _ h => List.mem_cons_of_mem _ (List.mem_append_right _ h)) (by decide +kernel))
set_option maxRecDepth 20000 in
theorem gX6_spare_X6_checkNextPrime : GoodIn wsX6_spare (wsV RX6 187 RX6 yX6_checkNextPrime wsX6_checkNextPrime) := goodIn_app (goodIn_of _ (by decide +kernel)) ggX6_spare_X6_checkNextPrime
set_option maxRecDepth 20000 in
theorem ggX6_spare_X2_remember : GoodIn wsX6_spare wsX2_remember := goodIn_r _ [25, 26, 27, 28, 29, 30, 31, 32, 33, 34, 24, 35, 36, 37, 38, 39, 6, 40, 57, 58, 59, 60, 61, 52, 53, 54, 55, 56] (by decide +kernel) (by decide +kernel)
set_option maxRecDepth 20000 in
theorem gX6_spare_X2_remember : GoodIn wsX6_spare (wsV RX6 183 RX2 yX2_remember wsX2_remember) := goodIn_app (goodIn_of _ (by decide +kernel)) ggX6_spare_X2_remember
set_option maxRecDepth 20000 in
theorem ggX6_spare_X0_nextPrime : GoodIn wsX6_spare wsX0_nextPrime := goodIn_r _ [14, 15, 16, 17, 18, 19, 13, 20, 52, 53, 54, 55, 56] (by decide +kernel) (by decide +kernel)
set_option maxRecDepth 20000 in
theorem gX6_spare_X0_nextPrime : GoodIn wsX6_spare (wsV RX6 144 RX0 yX0_nextPrime wsX0_nextPrime) := goodIn_app (goodIn_of _ (by decide +kernel)) ggX6_spare_X0_nextPrime
set_option maxRecDepth 20000 in
theorem ggX6_spare_X0_letCome : GoodIn wsX6_spare wsX0_letCome := goodIn_r _ [44, 45, 15, 46, 11, 12, 13, 14, 16, 17, 18, 19, 20, 52, 53, 54, 55, 56] (by decide +kernel) (by decide +kernel)
set_option maxRecDepth 20000 in
theorem gX6_spare_X0_letCome : GoodIn wsX6_spare (wsV RX6 115 RX0 yX0_letCome wsX0_letCome) := goodIn_app (goodIn_of _ (by decide +kernel)) ggX6_spare_X0_letCome
theorem dX6_spare_0 : decode cX6_spare 0 = .ok (.aload_n 0, 1) := by decide +kernel
theorem dX6_spare_1 : decode cX6_spare 1 = .ok (.invokevirtual 187, 3) := by decide +kernel
theorem dX6_spare_4 : decode cX6_spare 4 = .ok (.aload_n 0, 1) := by decide +kernel
theorem dX6_spare_5 : decode cX6_spare 5 = .ok (.getfield 26, 3) := by decide +kernel
theorem dX6_spare_8 : decode cX6_spare 8 = .ok (.aload_n 0, 1) := by decide +kernel
theorem dX6_spare_9 : decode cX6_spare 9 = .ok (.getfield 19, 3) := by decide +kernel
theorem dX6_spare_12 : decode cX6_spare 12 = .ok (.invokevirtual 183, 3) := by decide +kernel
theorem dX6_spare_15 : decode cX6_spare 15 = .ok (.aload_n 0, 1) := by decide +kernel
theorem dX6_spare_16 : decode cX6_spare 16 = .ok (.getfield 19, 3) := by decide +kernel
theorem dX6_spare_19 : decode cX6_spare 19 = .ok (.invokevirtual 144, 3) := by decide +kernel
theorem dX6_spare_22 : decode cX6_spare 22 = .ok (.istore_n 1, 1) := by decide +kernel
theorem dX6_spare_23 : decode cX6_spare 23 = .ok (.aload_n 0, 1) := by decide +kernel
theorem dX6_spare_24 : decode cX6_spare 24 = .ok (.getfield 19, 3) := by decide +kernel
theorem dX6_spare_27 : decode cX6_spare 27 = .ok (.iconst 0, 1) := by decide +kernel
theorem dX6_spare_28 : decode cX6_spare 28 = .ok (.invokevirtual 115, 3) := by decide +kernel
theorem dX6_spare_31 : decode cX6_spare 31 = .ok (.pop, 1) := by decide +kernel
theorem dX6_spare_32 : decode cX6_spare 32 = .ok (.iload_n 1, 1) := by decide +kernel
theorem dX6_spare_33 : decode cX6_spare 33 = .ok (.ireturn, 1) := by decide +kernel
set_option maxRecDepth 20000 in
theorem ggX6_strikeTo_X6_outside : GoodIn wsX6_strikeTo wsX6_outside := goodIn_r _ [9] (by decide +kernel) (by decide +kernel)
set_option maxRecDepth 20000 in
theorem gX6_strikeTo_X6_outside : GoodIn wsX6_strikeTo (va_wsS RX6 40 yX6_outside wsX6_outside) := goodIn_app (goodIn_of _ (by decide +kernel)) ggX6_strikeTo_X6_outside
set_option maxRecDepth 20000 in
theorem ggX6_strikeTo_X2_remember : GoodIn wsX6_strikeTo wsX2_remember := goodIn_r _ [14, 15, 16, 17, 18, 19, 20, 21, 22, 23, 13, 24, 25, 26, 27, 7, 8, 9, 53, 54, 55, 56, 57, 58, 59, 60, 61, 62] (by decide +kernel) (by decide +kernel)
set_option maxRecDepth 20000 in
theorem gX6_strikeTo_X2_remember : GoodIn wsX6_strikeTo (wsV RX6 183 RX2 yX2_remember wsX2_remember) := goodIn_app (goodIn_of _ (by decide +kernel)) ggX6_strikeTo_X2_remember
set_option maxRecDepth 20000 in
theorem ggX6_strikeTo_X0_letStrikeUpTo : GoodIn wsX6_strikeTo wsX0_letStrikeUpTo := goodIn_r _ [32, 33, 34, 35, 31, 36, 37, 38, 39, 40, 41, 42, 43, 44, 45, 46, 47, 58, 59, 60, 61, 62] (by decide +kernel) (by decide +kernel)
set_option maxRecDepth 20000 in
theorem gX6_strikeTo_X0_letStrikeUpTo : GoodIn wsX6_strikeTo (wsV RX6 192 RX0 yX0_letStrikeUpTo wsX0_letStrikeUpTo) := goodIn_app (goodIn_of _ (by decide +kernel)) ggX6_strikeTo_X0_letStrikeUpTo
theorem dX6_strikeTo_0 : decode cX6_strikeTo 0 = .ok (.iload_n 1, 1) := by decide +kernel
theorem dX6_strikeTo_1 : decode cX6_strikeTo 1 = .ok (.iconst 0, 1) := by decide +kernel
theorem dX6_strikeTo_2 : decode cX6_strikeTo 2 = .ok (.ldc 180, 2) := by decide +kernel
theorem dX6_strikeTo_4 : decode cX6_strikeTo 4 = .ok (.invokestatic 40, 3) := by decide +kernel
theorem dX6_strikeTo_7 : decode cX6_strikeTo 7 = .ok (.ifCond .eq 13, 3) := by decide +kernel
theorem dX6_strikeTo_10 : decode cX6_strikeTo 10 = .ok (.new 44, 3) := by decide +kernel
theorem dX6_strikeTo_13 : decode cX6_strikeTo 13 = .ok (.dup, 1) := by decide +kernel
theorem dX6_strikeTo_14 : decode cX6_strikeTo 14 = .ok (.ldc 190, 2) := by decide +kernel
theorem dX6_strikeTo_16 : decode cX6_strikeTo 16 = .ok (.invokespecial 48, 3) := by decide +kernel
theorem dX6_strikeTo_19 : decode cX6_strikeTo 19 = .ok (.athrow, 1) := by decide +kernel
theorem dX6_strikeTo_20 : decode cX6_strikeTo 20 = .ok (.aload_n 0, 1) := by decide +kernel
theorem dX6_strikeTo_21 : decode cX6_strikeTo 21 = .ok (.getfield 26, 3) := by decide +kernel
theorem dX6_strikeTo_24 : decode cX6_strikeTo 24 = .ok (.aload_n 0, 1) := by decide +kernel
theorem dX6_strikeTo_25 : decode cX6_strikeTo 25 = .ok (.getfield 19, 3) := by decide +kernel
theorem dX6_strikeTo_28 : decode cX6_strikeTo 28 = .ok (.invokevirtual 183, 3) := by decide +kernel
theorem dX6_strikeTo_31 : decode cX6_strikeTo 31 = .ok (.aload_n 0, 1) := by decide +kernel
theorem dX6_strikeTo_32 : decode cX6_strikeTo 32 = .ok (.getfield 19, 3) := by decide +kernel
theorem dX6_strikeTo_35 : decode cX6_strikeTo 35 = .ok (.iload_n 1, 1) := by decide +kernel
theorem dX6_strikeTo_36 : decode cX6_strikeTo 36 = .ok (.invokevirtual 192, 3) := by decide +kernel
theorem dX6_strikeTo_39 : decode cX6_strikeTo 39 = .ok (.ireturn, 1) := by decide +kernel
set_option maxRecDepth 20000 in
theorem ggX6_again_X2_remember : GoodIn wsX6_again wsX2_remember := goodIn_r _ [7, 8, 9, 10, 11, 12, 13, 14, 15, 16, 6, 17, 18, 19, 20, 21, 22, 23, 47, 48, 49, 50, 51, 42, 43, 44, 45, 46] (by decide +kernel) (by decide +kernel)
set_option maxRecDepth 20000 in
theorem gX6_again_X2_remember : GoodIn wsX6_again (wsV RX6 183 RX2 yX2_remember wsX2_remember) := goodIn_app (goodIn_of _ (by decide +kernel)) ggX6_again_X2_remember
set_option maxRecDepth 20000 in
theorem ggX6_again_X0_begin : GoodIn wsX6_again wsX0_begin := goodIn_r _ [28, 29, 30, 31, 27, 32, 33, 34, 35, 36, 42, 43, 44, 45, 46] (by decide +kernel) (by decide +kernel)
set_option maxRecDepth 20000 in
theorem gX6_again_X0_begin : GoodIn wsX6_again (wsV RX6 73 RX0 yX0_begin wsX0_begin) := goodIn_app (goodIn_of _ (by decide +kernel)) ggX6_again_X0_begin
theorem dX6_again_0 : decode cX6_again 0 = .ok (.aload_n 0, 1) := by decide +kernel
theorem dX6_again_1 : decode cX6_again 1 = .ok (.getfield 26, 3) := by decide +kernel
theorem dX6_again_4 : decode cX6_again 4 = .ok (.aload_n 0, 1) := by decide +kernel
theorem dX6_again_5 : decode cX6_again 5 = .ok (.getfield 19, 3) := by decide +kernel
theorem dX6_again_8 : decode cX6_again 8 = .ok (.invokevirtual 183, 3) := by decide +kernel
theorem dX6_again_11 : decode cX6_again 11 = .ok (.aload_n 0, 1) := by decide +kernel
theorem dX6_again_12 : decode cX6_again 12 = .ok (.getfield 19, 3) := by decide +kernel
theorem dX6_again_15 : decode cX6_again 15 = .ok (.getfield 138, 3) := by decide +kernel
theorem dX6_again_18 : decode cX6_again 18 = .ok (.istore_n 1, 1) := by decide +kernel
theorem dX6_again_19 : decode cX6_again 19 = .ok (.aload_n 0, 1) := by decide +kernel
theorem dX6_again_20 : decode cX6_again 20 = .ok (.getfield 19, 3) := by decide +kernel
theorem dX6_again_23 : decode cX6_again 23 = .ok (.aload_n 0, 1) := by decide +kernel
theorem dX6_again_24 : decode cX6_again 24 = .ok (.getfield 19, 3) := by decide +kernel
theorem dX6_again_27 : decode cX6_again 27 = .ok (.getfield 103, 3) := by decide +kernel
theorem dX6_again_30 : decode cX6_again 30 = .ok (.invokevirtual 73, 3) := by decide +kernel
theorem dX6_again_33 : decode cX6_again 33 = .ok (.iload_n 1, 1) := by decide +kernel
theorem dX6_again_34 : decode cX6_again 34 = .ok (.ireturn, 1) := by decide +kernel
set_option maxRecDepth 20000 in
theorem ggX6_undo_X2_takeBack : GoodIn wsX6_undo wsX2_takeBack := goodIn_r _ [9, 10, 11, 12, 13, 14, 15, 16, 17, 18, 8, 19, 20, 21, 22, 23, 24, 25, 26, 27, 28, 29, 30, 31, 32, 33, 34, 40, 41, 42, 43, 44, 45, 46, 47, 48, 49] (by decide +kernel) (by decide +kernel)
set_option maxRecDepth 20000 in
theorem gX6_undo_X2_takeBack : GoodIn wsX6_undo (wsV RX6 200 RX2 yX2_takeBack wsX2_takeBack) := goodIn_app (goodIn_of _ (by decide +kernel)) ggX6_undo_X2_takeBack
theorem dX6_undo_0 : decode cX6_undo 0 = .ok (.aload_n 0, 1) := by decide +kernel
theorem dX6_undo_1 : decode cX6_undo 1 = .ok (.getfield 26, 3) := by decide +kernel
theorem dX6_undo_4 : decode cX6_undo 4 = .ok (.getfield 195, 3) := by decide +kernel
theorem dX6_undo_7 : decode cX6_undo 7 = .ok (.ifCond .ne 13, 3) := by decide +kernel
theorem dX6_undo_10 : decode cX6_undo 10 = .ok (.new 55, 3) := by decide +kernel
theorem dX6_undo_13 : decode cX6_undo 13 = .ok (.dup, 1) := by decide +kernel
theorem dX6_undo_14 : decode cX6_undo 14 = .ok (.ldc 198, 2) := by decide +kernel
theorem dX6_undo_16 : decode cX6_undo 16 = .ok (.invokespecial 59, 3) := by decide +kernel
theorem dX6_undo_19 : decode cX6_undo 19 = .ok (.athrow, 1) := by decide +kernel
theorem dX6_undo_20 : decode cX6_undo 20 = .ok (.aload_n 0, 1) := by decide +kernel
theorem dX6_undo_21 : decode cX6_undo 21 = .ok (.getfield 26, 3) := by decide +kernel
theorem dX6_undo_24 : decode cX6_undo 24 = .ok (.aload_n 0, 1) := by decide +kernel
theorem dX6_undo_25 : decode cX6_undo 25 = .ok (.getfield 19, 3) := by decide +kernel
theorem dX6_undo_28 : decode cX6_undo 28 = .ok (.invokevirtual 200, 3) := by decide +kernel
theorem dX6_undo_31 : decode cX6_undo 31 = .ok (.aload_n 0, 1) := by decide +kernel
theorem dX6_undo_32 : decode cX6_undo 32 = .ok (.getfield 26, 3) := by decide +kernel
theorem dX6_undo_35 : decode cX6_undo 35 = .ok (.getfield 195, 3) := by decide +kernel
theorem dX6_undo_38 : decode cX6_undo 38 = .ok (.ireturn, 1) := by decide +kernel
set_option maxRecDepth 20000 in
theorem ggX6_wouldStrike_X6_checkQuotient : GoodIn wsX6_wouldStrike wsX6_checkQuotient := goodIn_ca (goodIn_r _ [6, 7, 8, 1, 9, 10, 11, 12, 13, 14, 15, 16, 17, 18, 19, 20, 21, 22, 23, 24, 25, 26, 27, 28, 29, 30, 31, 32, 33, 34, 35, 36, 37, 38, 39, 40, 41, 42, 43, 44, 45, 46, 47, 48, 49, 50, 51, 52, 53, 54, 55, 56, 57, 58, 59, 60, 61, 80, 81, 82, 83, 84, 85, 86, 87, 88, 89, 90, 91, 92, 93, 94] (by decide +kernel) (by decide +kernel)) (goodIn_sub (fun _ h => List.mem_cons_of_mem _ (List.mem_append_right _ h)) (by decide +kernel))
set_option maxRecDepth 20000 in
theorem gX6_wouldStrike_X6_checkQuotient : GoodIn wsX6_wouldStrike (wsV RX6 153 RX6 yX6_checkQuotient wsX6_checkQuotient) := goodIn_app (goodIn_of _ (by decide +kernel)) ggX6_wouldStrike_X6_checkQuotient
set_option maxRecDepth 20000 in
theorem ggX6_wouldStrike_X0_nextPrime : GoodIn wsX6_wouldStrike wsX0_nextPrime := goodIn_r _ [65, 17, 16, 46, 47, 48, 12, 49, 90, 91, 92, 93, 94] (by decide +kernel) (by decide +kernel)
set_option maxRecDepth 20000 in
theorem gX6_wouldStrike_X0_nextPrime : GoodIn wsX6_wouldStrike (wsV RX6 144 RX0 yX0_nextPrime wsX0_nextPrime) := goodIn_app (goodIn_of _ (by decide +kernel)) ggX6_wouldStrike_X0_nextPrime
set_option maxRecDepth 20000 in
theorem ggX6_wouldStrike_X0_tally : GoodIn wsX6_wouldStrike wsX0_tally := goodIn_r _ [13, 14, 15, 16, 17, 18, 19, 20, 21, 22, 23, 24, 25, 26, 27, 28, 29, 30, 31, 32, 33, 34, 35, 36, 37, 38, 39, 40, 41, 42, 43, 12, 44, 45, 46, 47, 48, 49, 50, 51, 52, 53, 54, 55, 56, 57, 58, 59, 60, 61, 90, 91, 92, 93, 94, 85, 86, 87, 88, 89] (by decide +kernel) (by decide +kernel)
set_option maxRecDepth 20000 in
theorem gX6_wouldStrike_X0_tally : GoodIn wsX6_wouldStrike (wsV RX6 119 RX0 yX0_tally wsX0_tally) := goodIn_app (goodIn_of _ (by decide +kernel)) ggX6_wouldStrike_X0_tally
set_option maxRecDepth 20000 in
theorem ggX6_wouldStrike_X3_multiplesAt : GoodIn wsX6_wouldStrike wsX3_multiplesAt := goodIn_r _ [69, 54, 55, 56, 21, 57, 33, 37, 38, 39, 40, 24, 58, 59, 60, 61, 23, 70, 71, 72, 73, 74, 75, 76, 77, 36, 78, 5, 79, 85, 86, 87, 88, 89] (by decide +kernel) (by decide +kernel)
set_option maxRecDepth 20000 in
theorem gX6_wouldStrike_X3_multiplesAt : GoodIn wsX6_wouldStrike (wsV RX6 203 RX3 yX3_multiplesAt wsX3_multiplesAt) := goodIn_app (goodIn_of _ (by decide +kernel)) ggX6_wouldStrike_X3_multiplesAt
theorem dX6_wouldStrike_0 : decode cX6_wouldStrike 0 = .ok (.aload_n 0, 1) := by decide +kernel
theorem dX6_wouldStrike_1 : decode cX6_wouldStrike 1 = .ok (.iload_n 1, 1) := by decide +kernel
theorem dX6_wouldStrike_2 : decode cX6_wouldStrike 2 = .ok (.invokevirtual 153, 3) := by decide +kernel
theorem dX6_wouldStrike_5 : decode cX6_wouldStrike 5 = .ok (.aload_n 0, 1) := by decide +kernel
theorem dX6_wouldStrike_6 : decode cX6_wouldStrike 6 = .ok (.getfield 19, 3) := by decide +kernel
theorem dX6_wouldStrike_9 : decode cX6_wouldStrike 9 = .ok (.invokevirtual 144, 3) := by decide +kernel
theorem dX6_wouldStrike_12 : decode cX6_wouldStrike 12 = .ok (.istore_n 2, 1) := by decide +kernel
theorem dX6_wouldStrike_13 : decode cX6_wouldStrike 13 = .ok (.iload_n 2, 1) := by decide +kernel
theorem dX6_wouldStrike_14 : decode cX6_wouldStrike 14 = .ok (.iconst (-1), 1) := by decide +kernel
theorem dX6_wouldStrike_15 : decode cX6_wouldStrike 15 = .ok (.if_icmp .ne 7, 3) := by decide +kernel
theorem dX6_wouldStrike_18 : decode cX6_wouldStrike 18 = .ok (.iconst 0, 1) := by decide +kernel
theorem dX6_wouldStrike_19 : decode cX6_wouldStrike 19 = .ok (.goto 15, 3) := by decide +kernel
theorem dX6_wouldStrike_22 : decode cX6_wouldStrike 22 = .ok (.aload_n 0, 1) := by decide +kernel
theorem dX6_wouldStrike_23 : decode cX6_wouldStrike 23 = .ok (.getfield 19, 3) := by decide +kernel
theorem dX6_wouldStrike_26 : decode cX6_wouldStrike 26 = .ok (.invokevirtual 119, 3) := by decide +kernel
theorem dX6_wouldStrike_29 : decode cX6_wouldStrike 29 = .ok (.iload_n 1, 1) := by decide +kernel
theorem dX6_wouldStrike_30 : decode cX6_wouldStrike 30 = .ok (.iload_n 2, 1) := by decide +kernel
theorem dX6_wouldStrike_31 : decode cX6_wouldStrike 31 = .ok (.invokevirtual 203, 3) := by decide +kernel
theorem dX6_wouldStrike_34 : decode cX6_wouldStrike 34 = .ok (.ireturn, 1) := by decide +kernel
theorem dX6_outside_0 : decode cX6_outside 0 = .ok (.iload_n 0, 1) := by decide +kernel
theorem dX6_outside_1 : decode cX6_outside 1 = .ok (.iload_n 1, 1) := by decide +kernel
theorem dX6_outside_2 : decode cX6_outside 2 = .ok (.if_icmp .lt 8, 3) := by decide +kernel
theorem dX6_outside_5 : decode cX6_outside 5 = .ok (.iload_n 0, 1) := by decide +kernel
theorem dX6_outside_6 : decode cX6_outside 6 = .ok (.iload_n 2, 1) := by decide +kernel
theorem dX6_outside_7 : decode cX6_outside 7 = .ok (.if_icmp .le 7, 3) := by decide +kernel
theorem dX6_outside_10 : decode cX6_outside 10 = .ok (.iconst 1, 1) := by decide +kernel
theorem dX6_outside_11 : decode cX6_outside 11 = .ok (.goto 4, 3) := by decide +kernel
theorem dX6_outside_14 : decode cX6_outside 14 = .ok (.iconst 0, 1) := by decide +kernel
theorem dX6_outside_15 : decode cX6_outside 15 = .ok (.ireturn, 1) := by decide +kernel
set_option maxRecDepth 20000 in
theorem ggX6_checkQuotient_X0_tally : GoodIn wsX6_checkQuotient wsX0_tally := goodIn_r _ [8, 9, 10, 11, 12, 13, 14, 15, 16, 17, 18, 19, 20, 21, 22, 23, 24, 25, 26, 27, 28, 29, 30, 31, 32, 33, 34, 35, 36, 37, 38, 7, 39, 40, 41, 42, 43, 44, 45, 46, 47, 48, 49, 50, 51, 52, 53, 54, 55, 56, 67, 68, 69, 70, 71, 62, 63, 64, 65, 66] (by decide +kernel) (by decide +kernel)
set_option maxRecDepth 20000 in
theorem gX6_checkQuotient_X0_tally : GoodIn wsX6_checkQuotient (wsV RX6 119 RX0 yX0_tally wsX0_tally) := goodIn_app (goodIn_of _ (by decide +kernel)) ggX6_checkQuotient_X0_tally
theorem dX6_checkQuotient_0 : decode cX6_checkQuotient 0 = .ok (.iload_n 1, 1) := by decide +kernel
theorem dX6_checkQuotient_1 : decode cX6_checkQuotient 1 = .ok (.ifCond .lt 17, 3) := by decide +kernel
theorem dX6_checkQuotient_4 : decode cX6_checkQuotient 4 = .ok (.iload_n 1, 1) := by decide +kernel
theorem dX6_checkQuotient_5 : decode cX6_checkQuotient 5 = .ok (.aload_n 0, 1) := by decide +kernel
theorem dX6_checkQuotient_6 : decode cX6_checkQuotient 6 = .ok (.getfield 19, 3) := by decide +kernel
theorem dX6_checkQuotient_9 : decode cX6_checkQuotient 9 = .ok (.invokevirtual 119, 3) := by decide +kernel
theorem dX6_checkQuotient_12 : decode cX6_checkQuotient 12 = .ok (.getfield 123, 3) := by decide +kernel
theorem dX6_checkQuotient_15 : decode cX6_checkQuotient 15 = .ok (.if_icmp .lt 14, 3) := by decide +kernel
theorem dX6_checkQuotient_18 : decode cX6_checkQuotient 18 = .ok (.new 279, 3) := by decide +kernel
theorem dX6_checkQuotient_21 : decode cX6_checkQuotient 21 = .ok (.dup, 1) := by decide +kernel
theorem dX6_checkQuotient_22 : decode cX6_checkQuotient 22 = .ok (.ldc_w 281, 3) := by decide +kernel
theorem dX6_checkQuotient_25 : decode cX6_checkQuotient 25 = .ok (.invokespecial 283, 3) := by decide +kernel
theorem dX6_checkQuotient_28 : decode cX6_checkQuotient 28 = .ok (.athrow, 1) := by decide +kernel
theorem dX6_checkQuotient_29 : decode cX6_checkQuotient 29 = .ok (.return_, 1) := by decide +kernel
set_option maxRecDepth 20000 in
theorem ggX6_checkNextPrime_X0_nextPrime : GoodIn wsX6_checkNextPrime wsX0_nextPrime := goodIn_r _ [8, 9, 10, 11, 12, 13, 7, 14, 20, 21, 22, 23, 24] (by decide +kernel) (by decide +kernel)
set_option maxRecDepth 20000 in
theorem gX6_checkNextPrime_X0_nextPrime : GoodIn wsX6_checkNextPrime (wsV RX6 144 RX0 yX0_nextPrime wsX0_nextPrime) := goodIn_app (goodIn_of _ (by decide +kernel)) ggX6_checkNextPrime_X0_nextPrime
theorem dX6_checkNextPrime_0 : decode cX6_checkNextPrime 0 = .ok (.aload_n 0, 1) := by decide +kernel
theorem dX6_checkNextPrime_1 : decode cX6_checkNextPrime 1 = .ok (.getfield 19, 3) := by decide +kernel
theorem dX6_checkNextPrime_4 : decode cX6_checkNextPrime 4 = .ok (.invokevirtual 144, 3) := by decide +kernel
theorem dX6_checkNextPrime_7 : decode cX6_checkNextPrime 7 = .ok (.iconst (-1), 1) := by decide +kernel
theorem dX6_checkNextPrime_8 : decode cX6_checkNextPrime 8 = .ok (.if_icmp .ne 14, 3) := by decide +kernel
theorem dX6_checkNextPrime_11 : decode cX6_checkNextPrime 11 = .ok (.new 55, 3) := by decide +kernel
theorem dX6_checkNextPrime_14 : decode cX6_checkNextPrime 14 = .ok (.dup, 1) := by decide +kernel
theorem dX6_checkNextPrime_15 : decode cX6_checkNextPrime 15 = .ok (.ldc_w 284, 3) := by decide +kernel
theorem dX6_checkNextPrime_18 : decode cX6_checkNextPrime 18 = .ok (.invokespecial 59, 3) := by decide +kernel
theorem dX6_checkNextPrime_21 : decode cX6_checkNextPrime 21 = .ok (.athrow, 1) := by decide +kernel
theorem dX6_checkNextPrime_22 : decode cX6_checkNextPrime 22 = .ok (.return_, 1) := by decide +kernel
theorem dJ13_bitCount_95d88_0 : decode cJ13_bitCount_95d88 0 = .ok (.lload_n 0, 1) := by decide +kernel
theorem dJ13_bitCount_95d88_1 : decode cJ13_bitCount_95d88 1 = .ok (.lload_n 0, 1) := by decide +kernel
theorem dJ13_bitCount_95d88_2 : decode cJ13_bitCount_95d88 2 = .ok (.iconst 1, 1) := by decide +kernel
theorem dJ13_bitCount_95d88_3 : decode cJ13_bitCount_95d88 3 = .ok (.lushr, 1) := by decide +kernel
theorem dJ13_bitCount_95d88_4 : decode cJ13_bitCount_95d88 4 = .ok (.ldc2_w 314, 3) := by decide +kernel
theorem dJ13_bitCount_95d88_7 : decode cJ13_bitCount_95d88 7 = .ok (.land, 1) := by decide +kernel
theorem dJ13_bitCount_95d88_8 : decode cJ13_bitCount_95d88 8 = .ok (.lsub, 1) := by decide +kernel
theorem dJ13_bitCount_95d88_9 : decode cJ13_bitCount_95d88 9 = .ok (.lstore_n 0, 1) := by decide +kernel
theorem dJ13_bitCount_95d88_10 : decode cJ13_bitCount_95d88 10 = .ok (.lload_n 0, 1) := by decide +kernel
theorem dJ13_bitCount_95d88_11 : decode cJ13_bitCount_95d88 11 = .ok (.ldc2_w 316, 3) := by decide +kernel
theorem dJ13_bitCount_95d88_14 : decode cJ13_bitCount_95d88 14 = .ok (.land, 1) := by decide +kernel
theorem dJ13_bitCount_95d88_15 : decode cJ13_bitCount_95d88 15 = .ok (.lload_n 0, 1) := by decide +kernel
theorem dJ13_bitCount_95d88_16 : decode cJ13_bitCount_95d88 16 = .ok (.iconst 2, 1) := by decide +kernel
theorem dJ13_bitCount_95d88_17 : decode cJ13_bitCount_95d88 17 = .ok (.lushr, 1) := by decide +kernel
theorem dJ13_bitCount_95d88_18 : decode cJ13_bitCount_95d88 18 = .ok (.ldc2_w 316, 3) := by decide +kernel
theorem dJ13_bitCount_95d88_21 : decode cJ13_bitCount_95d88 21 = .ok (.land, 1) := by decide +kernel
theorem dJ13_bitCount_95d88_22 : decode cJ13_bitCount_95d88 22 = .ok (.ladd, 1) := by decide +kernel
theorem dJ13_bitCount_95d88_23 : decode cJ13_bitCount_95d88 23 = .ok (.lstore_n 0, 1) := by decide +kernel
theorem dJ13_bitCount_95d88_24 : decode cJ13_bitCount_95d88 24 = .ok (.lload_n 0, 1) := by decide +kernel
theorem dJ13_bitCount_95d88_25 : decode cJ13_bitCount_95d88 25 = .ok (.lload_n 0, 1) := by decide +kernel
theorem dJ13_bitCount_95d88_26 : decode cJ13_bitCount_95d88 26 = .ok (.iconst 4, 1) := by decide +kernel
theorem dJ13_bitCount_95d88_27 : decode cJ13_bitCount_95d88 27 = .ok (.lushr, 1) := by decide +kernel
theorem dJ13_bitCount_95d88_28 : decode cJ13_bitCount_95d88 28 = .ok (.ladd, 1) := by decide +kernel
theorem dJ13_bitCount_95d88_29 : decode cJ13_bitCount_95d88 29 = .ok (.ldc2_w 318, 3) := by decide +kernel
theorem dJ13_bitCount_95d88_32 : decode cJ13_bitCount_95d88 32 = .ok (.land, 1) := by decide +kernel
theorem dJ13_bitCount_95d88_33 : decode cJ13_bitCount_95d88 33 = .ok (.lstore_n 0, 1) := by decide +kernel
theorem dJ13_bitCount_95d88_34 : decode cJ13_bitCount_95d88 34 = .ok (.lload_n 0, 1) := by decide +kernel
theorem dJ13_bitCount_95d88_35 : decode cJ13_bitCount_95d88 35 = .ok (.lload_n 0, 1) := by decide +kernel
theorem dJ13_bitCount_95d88_36 : decode cJ13_bitCount_95d88 36 = .ok (.bipush 8, 2) := by decide +kernel
theorem dJ13_bitCount_95d88_38 : decode cJ13_bitCount_95d88 38 = .ok (.lushr, 1) := by decide +kernel
theorem dJ13_bitCount_95d88_39 : decode cJ13_bitCount_95d88 39 = .ok (.ladd, 1) := by decide +kernel
theorem dJ13_bitCount_95d88_40 : decode cJ13_bitCount_95d88 40 = .ok (.lstore_n 0, 1) := by decide +kernel
theorem dJ13_bitCount_95d88_41 : decode cJ13_bitCount_95d88 41 = .ok (.lload_n 0, 1) := by decide +kernel
theorem dJ13_bitCount_95d88_42 : decode cJ13_bitCount_95d88 42 = .ok (.lload_n 0, 1) := by decide +kernel
theorem dJ13_bitCount_95d88_43 : decode cJ13_bitCount_95d88 43 = .ok (.bipush 16, 2) := by decide +kernel
theorem dJ13_bitCount_95d88_45 : decode cJ13_bitCount_95d88 45 = .ok (.lushr, 1) := by decide +kernel
theorem dJ13_bitCount_95d88_46 : decode cJ13_bitCount_95d88 46 = .ok (.ladd, 1) := by decide +kernel
theorem dJ13_bitCount_95d88_47 : decode cJ13_bitCount_95d88 47 = .ok (.lstore_n 0, 1) := by decide +kernel
theorem dJ13_bitCount_95d88_48 : decode cJ13_bitCount_95d88 48 = .ok (.lload_n 0, 1) := by decide +kernel
theorem dJ13_bitCount_95d88_49 : decode cJ13_bitCount_95d88 49 = .ok (.lload_n 0, 1) := by decide +kernel
theorem dJ13_bitCount_95d88_50 : decode cJ13_bitCount_95d88 50 = .ok (.bipush 32, 2) := by decide +kernel
theorem dJ13_bitCount_95d88_52 : decode cJ13_bitCount_95d88 52 = .ok (.lushr, 1) := by decide +kernel
theorem dJ13_bitCount_95d88_53 : decode cJ13_bitCount_95d88 53 = .ok (.ladd, 1) := by decide +kernel
theorem dJ13_bitCount_95d88_54 : decode cJ13_bitCount_95d88 54 = .ok (.lstore_n 0, 1) := by decide +kernel
theorem dJ13_bitCount_95d88_55 : decode cJ13_bitCount_95d88 55 = .ok (.lload_n 0, 1) := by decide +kernel
theorem dJ13_bitCount_95d88_56 : decode cJ13_bitCount_95d88 56 = .ok (.l2i, 1) := by decide +kernel
theorem dJ13_bitCount_95d88_57 : decode cJ13_bitCount_95d88 57 = .ok (.bipush 127, 2) := by decide +kernel
theorem dJ13_bitCount_95d88_59 : decode cJ13_bitCount_95d88 59 = .ok (.iand, 1) := by decide +kernel
theorem dJ13_bitCount_95d88_60 : decode cJ13_bitCount_95d88 60 = .ok (.ireturn, 1) := by decide +kernel
theorem dJ9_max_7cf53_0 : decode cJ9_max_7cf53 0 = .ok (.iload_n 0, 1) := by decide +kernel
theorem dJ9_max_7cf53_1 : decode cJ9_max_7cf53 1 = .ok (.iload_n 1, 1) := by decide +kernel
theorem dJ9_max_7cf53_2 : decode cJ9_max_7cf53 2 = .ok (.if_icmp .lt 7, 3) := by decide +kernel
theorem dJ9_max_7cf53_5 : decode cJ9_max_7cf53 5 = .ok (.iload_n 0, 1) := by decide +kernel
theorem dJ9_max_7cf53_6 : decode cJ9_max_7cf53 6 = .ok (.goto 4, 3) := by decide +kernel
theorem dJ9_max_7cf53_9 : decode cJ9_max_7cf53 9 = .ok (.iload_n 1, 1) := by decide +kernel
theorem dJ9_max_7cf53_10 : decode cJ9_max_7cf53 10 = .ok (.ireturn, 1) := by decide +kernel
theorem dJ9_min_7cf53_0 : decode cJ9_min_7cf53 0 = .ok (.iload_n 0, 1) := by decide +kernel
theorem dJ9_min_7cf53_1 : decode cJ9_min_7cf53 1 = .ok (.iload_n 1, 1) := by decide +kernel
theorem dJ9_min_7cf53_2 : decode cJ9_min_7cf53 2 = .ok (.if_icmp .gt 7, 3) := by decide +kernel
theorem dJ9_min_7cf53_5 : decode cJ9_min_7cf53 5 = .ok (.iload_n 0, 1) := by decide +kernel
theorem dJ9_min_7cf53_6 : decode cJ9_min_7cf53 6 = .ok (.goto 4, 3) := by decide +kernel
theorem dJ9_min_7cf53_9 : decode cJ9_min_7cf53 9 = .ok (.iload_n 1, 1) := by decide +kernel
theorem dJ9_min_7cf53_10 : decode cJ9_min_7cf53 10 = .ok (.ireturn, 1) := by decide +kernel
theorem dL_cell_0 : decode cL_cell 0 = .ok (.iload_n 1, 1) := by decide +kernel
theorem dL_cell_1 : decode cL_cell 1 = .ok (.aload_n 0, 1) := by decide +kernel
theorem dL_cell_2 : decode cL_cell 2 = .ok (.arraylength, 1) := by decide +kernel
theorem dL_cell_3 : decode cL_cell 3 = .ok (.if_icmp .ge 9, 3) := by decide +kernel
theorem dL_cell_6 : decode cL_cell 6 = .ok (.aload_n 0, 1) := by decide +kernel
theorem dL_cell_7 : decode cL_cell 7 = .ok (.iload_n 1, 1) := by decide +kernel
theorem dL_cell_8 : decode cL_cell 8 = .ok (.iaload, 1) := by decide +kernel
theorem dL_cell_9 : decode cL_cell 9 = .ok (.goto 15, 3) := by decide +kernel
theorem dL_cell_12 : decode cL_cell 12 = .ok (.ldc 7, 2) := by decide +kernel
theorem dL_cell_14 : decode cL_cell 14 = .ok (.iload_n 1, 1) := by decide +kernel
theorem dL_cell_15 : decode cL_cell 15 = .ok (.sipush 4096, 3) := by decide +kernel
theorem dL_cell_18 : decode cL_cell 18 = .ok (.irem, 1) := by decide +kernel
theorem dL_cell_19 : decode cL_cell 19 = .ok (.imul, 1) := by decide +kernel
theorem dL_cell_20 : decode cL_cell 20 = .ok (.sipush 149, 3) := by decide +kernel
theorem dL_cell_23 : decode cL_cell 23 = .ok (.iadd, 1) := by decide +kernel
theorem dL_cell_24 : decode cL_cell 24 = .ok (.ldc 8, 2) := by decide +kernel
theorem dL_cell_26 : decode cL_cell 26 = .ok (.iand, 1) := by decide +kernel
theorem dL_cell_27 : decode cL_cell 27 = .ok (.ireturn, 1) := by decide +kernel
set_option maxRecDepth 20000 in
theorem ggL_bound_X6_bound : GoodIn wsL_bound wsX6_bound := goodIn_ca (goodIn_r _ [7, 8, 9, 10, 11, 12, 13, 14, 6, 15, 16, 17, 18, 19, 20, 21, 22, 23, 24, 25, 26, 27, 28, 29, 30, 31, 32, 33, 34, 35, 36, 37, 38, 39, 40, 41, 42, 43, 44, 45, 46, 47, 48, 49, 50, 51, 52, 53, 54, 55, 56, 57, 58, 59, 60, 61] (by decide +kernel) (by decide +kernel)) (goodIn_sub (fun _ h => List.mem_cons_of_mem _ (List.mem_append_right _ h)) (by decide +kernel))
set_option maxRecDepth 20000 in
theorem gL_bound_X6_bound : GoodIn wsL_bound (wsV RL 9 RX6 yX6_bound wsX6_bound) := goodIn_app (goodIn_of _ (by decide +kernel)) ggL_bound_X6_bound
theorem dL_bound_0 : decode cL_bound 0 = .ok (.aload_n 0, 1) := by decide +kernel
theorem dL_bound_1 : decode cL_bound 1 = .ok (.iload_n 1, 1) := by decide +kernel
theorem dL_bound_2 : decode cL_bound 2 = .ok (.invokevirtual 9, 3) := by decide +kernel
theorem dL_bound_5 : decode cL_bound 5 = .ok (.ireturn, 1) := by decide +kernel
theorem dL_bound_6 : decode cL_bound 6 = .ok (.astore_n 2, 1) := by decide +kernel
theorem dL_bound_7 : decode cL_bound 7 = .ok (.ldc 17, 2) := by decide +kernel
theorem dL_bound_9 : decode cL_bound 9 = .ok (.ireturn, 1) := by decide +kernel
set_option maxRecDepth 20000 in
theorem ggL_strike_X6_strike : GoodIn wsL_strike wsX6_strike := goodIn_ca (goodIn_r _ [7, 8, 9, 10, 11, 12, 6, 13, 14, 15, 16, 17, 18, 19, 20, 21, 22, 23, 24, 25, 26, 27, 28, 29, 30, 31, 32, 33, 34, 35, 36, 37, 38, 39, 40, 41, 42, 43, 44, 45, 46, 47, 48, 49, 50, 51, 52, 53, 54, 55, 56, 57, 58, 59, 60, 61, 62, 63, 64, 65, 66, 67, 68, 69, 70, 71, 72, 73, 74, 75, 76, 77, 78, 79, 80, 81, 82, 83, 84, 85, 86, 87, 88, 89, 90, 91, 92, 93, 94, 95, 96, 97, 98, 99, 100, 101, 102, 103, 104, 105, 106, 107, 108, 109, 110, 111, 112, 113, 114, 115, 116, 117, 118, 119, 120, 121, 122, 123, 124, 125, 126, 127, 128] (by decide +kernel) (by decide +kernel)) (goodIn_sub (fun _ h => List.mem_cons_of_mem _ (List.mem_append_right _ h)) (by decide +kernel))
set_option maxRecDepth 20000 in
theorem gL_strike_X6_strike : GoodIn wsL_strike (wsV RL 18 RX6 yX6_strike wsX6_strike) := goodIn_app (goodIn_of _ (by decide +kernel)) ggL_strike_X6_strike
theorem dL_strike_0 : decode cL_strike 0 = .ok (.aload_n 0, 1) := by decide +kernel
theorem dL_strike_1 : decode cL_strike 1 = .ok (.invokevirtual 18, 3) := by decide +kernel
theorem dL_strike_4 : decode cL_strike 4 = .ok (.ireturn, 1) := by decide +kernel
theorem dL_strike_5 : decode cL_strike 5 = .ok (.astore_n 1, 1) := by decide +kernel
theorem dL_strike_6 : decode cL_strike 6 = .ok (.ldc 17, 2) := by decide +kernel
theorem dL_strike_8 : decode cL_strike 8 = .ok (.ireturn, 1) := by decide +kernel
set_option maxRecDepth 20000 in
theorem ggL_spare_X6_spare : GoodIn wsL_spare wsX6_spare := goodIn_ca (goodIn_r _ [7, 8, 9, 10, 11, 12, 6, 13, 14, 15, 16, 17, 18, 19, 20, 21, 22, 23, 24, 25, 26, 27, 28, 29, 30, 31, 32, 33, 34, 35, 36, 37, 38, 39, 40, 41, 42, 43, 44, 45, 46, 47, 48, 49, 50, 51, 52, 53, 54, 55, 56, 57, 58, 59, 60, 61, 62, 63, 64, 65, 66, 67] (by decide +kernel) (by decide +kernel)) (goodIn_sub (fun _ h => List.mem_cons_of_mem _ (List.mem_append_right _ h)) (by decide +kernel))
set_option maxRecDepth 20000 in
theorem gL_spare_X6_spare : GoodIn wsL_spare (wsV RL 24 RX6 yX6_spare wsX6_spare) := goodIn_app (goodIn_of _ (by decide +kernel)) ggL_spare_X6_spare
theorem dL_spare_0 : decode cL_spare 0 = .ok (.aload_n 0, 1) := by decide +kernel
theorem dL_spare_1 : decode cL_spare 1 = .ok (.invokevirtual 24, 3) := by decide +kernel
theorem dL_spare_4 : decode cL_spare 4 = .ok (.ireturn, 1) := by decide +kernel
theorem dL_spare_5 : decode cL_spare 5 = .ok (.astore_n 1, 1) := by decide +kernel
theorem dL_spare_6 : decode cL_spare 6 = .ok (.ldc 17, 2) := by decide +kernel
theorem dL_spare_8 : decode cL_spare 8 = .ok (.ireturn, 1) := by decide +kernel
set_option maxRecDepth 20000 in
theorem ggL_strikeTo_X6_strikeTo : GoodIn wsL_strikeTo wsX6_strikeTo := goodIn_ca (goodIn_r _ [7, 8, 9, 10, 11, 12, 13, 14, 6, 15, 16, 17, 18, 19, 20, 21, 22, 23, 24, 25, 26, 27, 28, 29, 30, 31, 32, 33, 34, 35, 36, 37, 38, 39, 40, 41, 42, 43, 44, 45, 46, 47, 48, 49, 50, 51, 52, 53, 54, 55, 56, 57, 58, 59, 60, 61, 62, 63, 64, 65, 66, 67, 68] (by decide +kernel) (by decide +kernel)) (goodIn_sub (fun _ h => List.mem_cons_of_mem _ (List.mem_append_right _ h)) (by decide +kernel))
set_option maxRecDepth 20000 in
theorem gL_strikeTo_X6_strikeTo : GoodIn wsL_strikeTo (wsV RL 27 RX6 yX6_strikeTo wsX6_strikeTo) := goodIn_app (goodIn_of _ (by decide +kernel)) ggL_strikeTo_X6_strikeTo
theorem dL_strikeTo_0 : decode cL_strikeTo 0 = .ok (.aload_n 0, 1) := by decide +kernel
theorem dL_strikeTo_1 : decode cL_strikeTo 1 = .ok (.iload_n 1, 1) := by decide +kernel
theorem dL_strikeTo_2 : decode cL_strikeTo 2 = .ok (.invokevirtual 27, 3) := by decide +kernel
theorem dL_strikeTo_5 : decode cL_strikeTo 5 = .ok (.ireturn, 1) := by decide +kernel
theorem dL_strikeTo_6 : decode cL_strikeTo 6 = .ok (.astore_n 2, 1) := by decide +kernel
theorem dL_strikeTo_7 : decode cL_strikeTo 7 = .ok (.ldc 17, 2) := by decide +kernel
theorem dL_strikeTo_9 : decode cL_strikeTo 9 = .ok (.ireturn, 1) := by decide +kernel
set_option maxRecDepth 20000 in
theorem ggL_undo_X6_undo : GoodIn wsL_undo wsX6_undo := goodIn_ca (goodIn_r _ [7, 8, 9, 10, 11, 12, 13, 14, 15, 16, 17, 18, 19, 20, 21, 22, 23, 24, 25, 26, 27, 28, 29, 30, 6, 31, 32, 33, 34, 35, 36, 37, 38, 39, 40, 41, 42, 43, 44, 45, 46, 47, 48, 49, 50, 51, 52, 53, 54, 55] (by decide +kernel) (by decide +kernel)) (goodIn_sub (fun _ h => List.mem_cons_of_mem _ (List.mem_append_right _ h)) (by decide +kernel))
set_option maxRecDepth 20000 in
theorem gL_undo_X6_undo : GoodIn wsL_undo (wsV RL 30 RX6 yX6_undo wsX6_undo) := goodIn_app (goodIn_of _ (by decide +kernel)) ggL_undo_X6_undo
theorem dL_undo_0 : decode cL_undo 0 = .ok (.aload_n 0, 1) := by decide +kernel
theorem dL_undo_1 : decode cL_undo 1 = .ok (.invokevirtual 30, 3) := by decide +kernel
theorem dL_undo_4 : decode cL_undo 4 = .ok (.ireturn, 1) := by decide +kernel
theorem dL_undo_5 : decode cL_undo 5 = .ok (.astore_n 1, 1) := by decide +kernel
theorem dL_undo_6 : decode cL_undo 6 = .ok (.ldc 17, 2) := by decide +kernel
theorem dL_undo_8 : decode cL_undo 8 = .ok (.ireturn, 1) := by decide +kernel
set_option maxRecDepth 20000 in
theorem ggL_about_X6_about : GoodIn wsL_about wsX6_about := goodIn_ca (goodIn_r _ [7, 8, 9, 10, 11, 12, 13, 14, 15, 16, 17, 18, 19, 20, 21, 22, 23, 24, 25, 26, 27, 28, 29, 30, 31, 32, 33, 34, 35, 36, 37, 38, 39, 40, 41, 42, 43, 44, 45, 46, 47, 48, 49, 50, 51, 52, 53, 54, 55, 56, 57, 58, 59, 60, 61, 62, 63, 64, 65, 66, 67, 68, 69, 70, 71, 72, 73, 74, 75, 76, 77, 78, 79, 80, 81, 82, 83, 84, 6, 85, 86, 87, 88, 89, 90, 91, 92, 93, 94, 95, 96, 97, 98, 99, 100, 101, 102, 103, 104, 105] (by decide +kernel) (by decide +kernel)) (goodIn_sub (fun _ h => List.mem_cons_of_mem _ (List.mem_append_right _ h)) (by decide +kernel))
set_option maxRecDepth 20000 in
theorem gL_about_X6_about : GoodIn wsL_about (wsV RL 33 RX6 yX6_about wsX6_about) := goodIn_app (goodIn_of _ (by decide +kernel)) ggL_about_X6_about
theorem dL_about_0 : decode cL_about 0 = .ok (.aload_n 0, 1) := by decide +kernel
theorem dL_about_1 : decode cL_about 1 = .ok (.iload_n 1, 1) := by decide +kernel
theorem dL_about_2 : decode cL_about 2 = .ok (.invokevirtual 33, 3) := by decide +kernel
theorem dL_about_5 : decode cL_about 5 = .ok (.ireturn, 1) := by decide +kernel
theorem dL_about_6 : decode cL_about 6 = .ok (.astore_n 2, 1) := by decide +kernel
theorem dL_about_7 : decode cL_about 7 = .ok (.ldc 17, 2) := by decide +kernel
theorem dL_about_9 : decode cL_about 9 = .ok (.ireturn, 1) := by decide +kernel
set_option maxRecDepth 20000 in
theorem ggL_quotient_X6_quotient : GoodIn wsL_quotient wsX6_quotient := goodIn_ca (goodIn_r _ [7, 8, 9, 10, 11, 6, 12, 13, 14, 15, 16, 17, 18, 19, 20, 21, 22, 23, 24, 25, 26, 27, 28, 29, 30, 31, 32, 33, 34, 35, 36, 37, 38, 39, 40, 41, 42, 43, 44, 45, 46, 47, 48, 49, 50, 51, 52, 53, 54, 55, 56, 57, 58, 59, 60, 61, 62, 63, 64, 65, 66, 67, 68, 69, 70, 71, 72, 73, 74, 75, 76, 77, 78, 79, 80, 81, 82, 83] (by decide +kernel) (by decide +kernel)) (goodIn_sub (fun _ h => List.mem_cons_of_mem _ (List.mem_append_right _ h)) (by decide +kernel))
set_option maxRecDepth 20000 in
theorem gL_quotient_X6_quotient : GoodIn wsL_quotient (wsV RL 36 RX6 yX6_quotient wsX6_quotient) := goodIn_app (goodIn_of _ (by decide +kernel)) ggL_quotient_X6_quotient
theorem dL_quotient_0 : decode cL_quotient 0 = .ok (.aload_n 0, 1) := by decide +kernel
theorem dL_quotient_1 : decode cL_quotient 1 = .ok (.iload_n 1, 1) := by decide +kernel
theorem dL_quotient_2 : decode cL_quotient 2 = .ok (.invokevirtual 36, 3) := by decide +kernel
theorem dL_quotient_5 : decode cL_quotient 5 = .ok (.ireturn, 1) := by decide +kernel
theorem dL_quotient_6 : decode cL_quotient 6 = .ok (.astore_n 2, 1) := by decide +kernel
theorem dL_quotient_7 : decode cL_quotient 7 = .ok (.ldc 17, 2) := by decide +kernel
theorem dL_quotient_9 : decode cL_quotient 9 = .ok (.ireturn, 1) := by decide +kernel
set_option maxRecDepth 20000 in
theorem ggL_left_X6_left : GoodIn wsL_left wsX6_left := goodIn_ca (goodIn_r _ [7, 8, 9, 10, 11, 6, 12, 13, 14, 15, 16, 17, 18, 19, 20, 21, 22, 23, 24, 25, 26, 27, 28, 29, 30, 31, 32, 33, 34, 35, 36, 37, 38, 39, 40, 41, 42, 43, 44, 45, 46, 47, 48, 49, 50, 51, 52, 53, 54, 55, 56, 57, 58, 59, 60, 61, 62, 63, 64, 65, 66, 67, 68, 69, 70, 71, 72, 73, 74, 75, 76, 77, 78, 79, 80, 81, 82, 83, 84, 85, 86, 87, 88, 89, 90, 91, 92] (by decide +kernel) (by decide +kernel)) (goodIn_sub (fun _ h => List.mem_cons_of_mem _ (List.mem_append_right _ h)) (by decide +kernel))
set_option maxRecDepth 20000 in
theorem gL_left_X6_left : GoodIn wsL_left (wsV RL 41 RX6 yX6_left wsX6_left) := goodIn_app (goodIn_of _ (by decide +kernel)) ggL_left_X6_left
theorem dL_left_0 : decode cL_left 0 = .ok (.aload_n 0, 1) := by decide +kernel
theorem dL_left_1 : decode cL_left 1 = .ok (.iload_n 1, 1) := by decide +kernel
theorem dL_left_2 : decode cL_left 2 = .ok (.invokevirtual 41, 3) := by decide +kernel
theorem dL_left_5 : decode cL_left 5 = .ok (.ireturn, 1) := by decide +kernel
theorem dL_left_6 : decode cL_left 6 = .ok (.astore_n 2, 1) := by decide +kernel
theorem dL_left_7 : decode cL_left 7 = .ok (.ldc 17, 2) := by decide +kernel
theorem dL_left_9 : decode cL_left 9 = .ok (.ireturn, 1) := by decide +kernel
set_option maxRecDepth 20000 in
theorem ggL_restLeft_X6_restLeft : GoodIn wsL_restLeft wsX6_restLeft := goodIn_ca (goodIn_ca (goodIn_r _ [9, 10, 11, 12, 13, 14, 15, 8, 16, 17, 18, 19, 20, 21, 22, 23, 24, 25, 26, 27, 28, 29, 30, 31, 32, 33, 34, 35, 36, 37, 38, 39, 40, 41, 42, 43, 44, 45, 46, 47, 48, 49, 50, 51, 52, 53, 54, 55, 56, 57, 58, 59, 60, 61, 62, 63, 64, 65, 66, 67, 68, 69, 70, 71, 72, 73, 74, 75, 76, 77, 78, 79, 80, 81, 82, 83, 84, 85, 86, 87, 88, 89, 90, 91, 92, 93] (by decide +kernel) (by decide +kernel)) (goodIn_sub (fun _ h => List.mem_cons_of_mem _ (List.mem_append_left _ (List.mem_append_right _ h))) (by decide +kernel))) (goodIn_sub (fun _ h => List.mem_cons_of_mem _ (List.mem_append_right _ h)) (by decide +kernel))
set_option maxRecDepth 20000 in
theorem gL_restLeft_X6_restLeft : GoodIn wsL_restLeft (wsV RL 44 RX6 yX6_restLeft wsX6_restLeft) := goodIn_app (goodIn_of _ (by decide +kernel)) ggL_restLeft_X6_restLeft
theorem dL_restLeft_0 : decode cL_restLeft 0 = .ok (.aload_n 0, 1) := by decide +kernel
theorem dL_restLeft_1 : decode cL_restLeft 1 = .ok (.iload_n 1, 1) := by decide +kernel
theorem dL_restLeft_2 : decode cL_restLeft 2 = .ok (.iload_n 2, 1) := by decide +kernel
theorem dL_restLeft_3 : decode cL_restLeft 3 = .ok (.invokevirtual 44, 3) := by decide +kernel
theorem dL_restLeft_6 : decode cL_restLeft 6 = .ok (.ireturn, 1) := by decide +kernel
theorem dL_restLeft_7 : decode cL_restLeft 7 = .ok (.astore_n 3, 1) := by decide +kernel
theorem dL_restLeft_8 : decode cL_restLeft 8 = .ok (.ldc 17, 2) := by decide +kernel
theorem dL_restLeft_10 : decode cL_restLeft 10 = .ok (.ireturn, 1) := by decide +kernel
theorem dL_restLeft_11 : decode cL_restLeft 11 = .ok (.astore_n 3, 1) := by decide +kernel
theorem dL_restLeft_12 : decode cL_restLeft 12 = .ok (.ldc 48, 2) := by decide +kernel
theorem dL_restLeft_14 : decode cL_restLeft 14 = .ok (.ireturn, 1) := by decide +kernel
set_option maxRecDepth 20000 in
theorem ggL_came_X6_came : GoodIn wsL_came wsX6_came := goodIn_ca (goodIn_r _ [7, 8, 9, 10, 11, 12, 13, 14, 15, 16, 17, 18, 19, 20, 21, 22, 23, 24, 25, 26, 27, 28, 29, 30] (by decide +kernel) (by decide +kernel)) (goodIn_sub (fun _ h => List.mem_cons_of_mem _ (List.mem_append_right _ h)) (by decide +kernel))
set_option maxRecDepth 20000 in
theorem gL_came_X6_came : GoodIn wsL_came (wsV RL 49 RX6 yX6_came wsX6_came) := goodIn_app (goodIn_of _ (by decide +kernel)) ggL_came_X6_came
theorem dL_came_0 : decode cL_came 0 = .ok (.aload_n 0, 1) := by decide +kernel
theorem dL_came_1 : decode cL_came 1 = .ok (.iload_n 1, 1) := by decide +kernel
theorem dL_came_2 : decode cL_came 2 = .ok (.invokevirtual 49, 3) := by decide +kernel
theorem dL_came_5 : decode cL_came 5 = .ok (.ireturn, 1) := by decide +kernel
theorem dL_came_6 : decode cL_came 6 = .ok (.astore_n 2, 1) := by decide +kernel
theorem dL_came_7 : decode cL_came 7 = .ok (.ldc 17, 2) := by decide +kernel
theorem dL_came_9 : decode cL_came 9 = .ok (.ireturn, 1) := by decide +kernel
set_option maxRecDepth 20000 in
theorem ggL_wouldStrike_X6_wouldStrike : GoodIn wsL_wouldStrike wsX6_wouldStrike := goodIn_ca (goodIn_r _ [7, 8, 9, 10, 11, 6, 12, 13, 14, 15, 16, 17, 18, 19, 20, 21, 22, 23, 24, 25, 26, 27, 28, 29, 30, 31, 32, 33, 34, 35, 36, 37, 38, 39, 40, 41, 42, 43, 44, 45, 46, 47, 48, 49, 50, 51, 52, 53, 54, 55, 56, 57, 58, 59, 60, 61, 62, 63, 64, 65, 66, 67, 68, 69, 70, 71, 72, 73, 74, 75, 76, 77, 78, 79, 80, 81, 82, 83, 84, 85, 86, 87, 88, 89, 90, 91, 92, 93, 94, 95, 96, 97, 98, 99, 100] (by decide +kernel) (by decide +kernel)) (goodIn_sub (fun _ h => List.mem_cons_of_mem _ (List.mem_append_right _ h)) (by decide +kernel))
set_option maxRecDepth 20000 in
theorem gL_wouldStrike_X6_wouldStrike : GoodIn wsL_wouldStrike (wsV RL 52 RX6 yX6_wouldStrike wsX6_wouldStrike) := goodIn_app (goodIn_of _ (by decide +kernel)) ggL_wouldStrike_X6_wouldStrike
theorem dL_wouldStrike_0 : decode cL_wouldStrike 0 = .ok (.aload_n 0, 1) := by decide +kernel
end
section
theorem dL_wouldStrike_1 : decode cL_wouldStrike 1 = .ok (.iload_n 1, 1) := by decide +kernel
theorem dL_wouldStrike_2 : decode cL_wouldStrike 2 = .ok (.invokevirtual 52, 3) := by decide +kernel
theorem dL_wouldStrike_5 : decode cL_wouldStrike 5 = .ok (.ireturn, 1) := by decide +kernel
theorem dL_wouldStrike_6 : decode cL_wouldStrike 6 = .ok (.astore_n 2, 1) := by decide +kernel
theorem dL_wouldStrike_7 : decode cL_wouldStrike 7 = .ok (.ldc 17, 2) := by decide +kernel
theorem dL_wouldStrike_9 : decode cL_wouldStrike 9 = .ok (.ireturn, 1) := by decide +kernel
set_option maxRecDepth 20000 in
theorem ggL_sumLeft_X6_sumLeft : GoodIn wsL_sumLeft wsX6_sumLeft := goodIn_ca (goodIn_r _ [7, 8, 9, 10, 11, 6, 12, 13, 14, 15, 16, 17, 18, 19, 20, 21, 22, 23, 24, 25, 26, 27, 28, 29, 30, 31, 32, 33, 34, 35, 36, 37, 38, 39, 40, 41, 42, 43, 44, 45, 46, 47, 48, 49, 50, 51, 52, 53, 54, 55, 56, 57, 58, 59, 60, 61, 62, 63, 64, 65, 66, 67, 68, 69, 70, 71, 72, 73, 74, 75, 76, 77, 78, 79, 80, 81, 82, 83, 84, 85, 86] (by decide +kernel) (by decide +kernel)) (goodIn_sub (fun _ h => List.mem_cons_of_mem _ (List.mem_append_right _ h)) (by decide +kernel))
set_option maxRecDepth 20000 in
theorem gL_sumLeft_X6_sumLeft : GoodIn wsL_sumLeft (wsV RL 55 RX6 yX6_sumLeft wsX6_sumLeft) := goodIn_app (goodIn_of _ (by decide +kernel)) ggL_sumLeft_X6_sumLeft
theorem dL_sumLeft_0 : decode cL_sumLeft 0 = .ok (.aload_n 0, 1) := by decide +kernel
theorem dL_sumLeft_1 : decode cL_sumLeft 1 = .ok (.iload_n 1, 1) := by decide +kernel
theorem dL_sumLeft_2 : decode cL_sumLeft 2 = .ok (.invokevirtual 55, 3) := by decide +kernel
theorem dL_sumLeft_5 : decode cL_sumLeft 5 = .ok (.lreturn, 1) := by decide +kernel
theorem dL_sumLeft_6 : decode cL_sumLeft 6 = .ok (.astore_n 2, 1) := by decide +kernel
theorem dL_sumLeft_7 : decode cL_sumLeft 7 = .ok (.ldc2_w 59, 3) := by decide +kernel
theorem dL_sumLeft_10 : decode cL_sumLeft 10 = .ok (.lreturn, 1) := by decide +kernel
set_option maxRecDepth 20000 in
theorem ggL_hangs_L_about : GoodIn wsL_hangs wsL_about := goodIn_ca (goodIn_r _ [5, 6, 1, 7, 8, 9, 10, 11, 12, 13, 14, 15, 16, 17, 18, 19, 20, 21, 22, 23, 24, 25, 26, 27, 28, 29, 30, 31, 32, 33, 34, 35, 36, 37, 38, 39, 40, 41, 42, 43, 44, 45, 46, 47, 48, 49, 50, 51, 52, 53, 54, 55, 56, 57, 58, 59, 60, 61, 62, 63, 64, 65, 66, 67, 68, 69, 70, 71, 72, 73, 74, 75, 76, 77, 78, 79, 80, 81, 82, 83, 84, 85, 86, 87, 88, 89, 90, 91, 92, 93, 94, 165, 166, 167, 168, 169, 170, 171, 172, 173, 174, 175, 176, 177, 178, 179] (by decide +kernel) (by decide +kernel)) (goodIn_sub (fun _ h => List.mem_cons_of_mem _ (List.mem_append_left _ (List.mem_append_right _ h))) (by decide +kernel))
set_option maxRecDepth 20000 in
theorem gL_hangs_L_about : GoodIn wsL_hangs (va_wsS RL 61 yL_about wsL_about) := goodIn_app (goodIn_of _ (by decide +kernel)) ggL_hangs_L_about
set_option maxRecDepth 20000 in
theorem ggL_hangs_L_quotient : GoodIn wsL_hangs wsL_quotient := goodIn_ca (goodIn_r _ [97, 98, 1, 99, 100, 101, 10, 102, 14, 103, 104, 105, 106, 107, 108, 15, 16, 17, 18, 19, 20, 21, 22, 23, 24, 25, 26, 27, 28, 29, 30, 31, 32, 33, 34, 35, 36, 37, 38, 39, 40, 41, 42, 43, 44, 45, 46, 47, 48, 49, 50, 51, 52, 53, 54, 55, 56, 57, 58, 59, 60, 61, 62, 63, 64, 65, 66, 67, 109, 165, 166, 167, 168, 169, 175, 176, 177, 178, 179, 170, 171, 172, 173, 174] (by decide +kernel) (by decide +kernel)) (goodIn_sub (fun _ h => List.mem_cons_of_mem _ (List.mem_append_right _ h)) (by decide +kernel))
set_option maxRecDepth 20000 in
theorem gL_hangs_L_quotient : GoodIn wsL_hangs (va_wsS RL 66 yL_quotient wsL_quotient) := goodIn_app (goodIn_of _ (by decide +kernel)) ggL_hangs_L_quotient
set_option maxRecDepth 20000 in
theorem ggL_hangs_L_left : GoodIn wsL_hangs wsL_left := goodIn_ca (goodIn_r _ [112, 98, 1, 113, 114, 115, 10, 116, 14, 103, 104, 105, 106, 107, 108, 15, 16, 17, 18, 19, 20, 21, 22, 23, 24, 25, 26, 27, 28, 29, 30, 31, 32, 33, 34, 35, 36, 37, 38, 39, 40, 41, 42, 43, 44, 45, 46, 47, 48, 49, 50, 51, 52, 53, 54, 55, 56, 57, 58, 59, 60, 61, 62, 63, 64, 65, 66, 67, 117, 81, 82, 83, 84, 85, 86, 87, 88, 89, 165, 166, 167, 168, 169, 175, 176, 177, 178, 179, 170, 171, 172, 173, 174] (by decide +kernel) (by decide +kernel)) (goodIn_sub (fun _ h => List.mem_cons_of_mem _ (List.mem_append_right _ h)) (by decide +kernel))
set_option maxRecDepth 20000 in
theorem gL_hangs_L_left : GoodIn wsL_hangs (va_wsS RL 68 yL_left wsL_left) := goodIn_app (goodIn_of _ (by decide +kernel)) ggL_hangs_L_left
set_option maxRecDepth 20000 in
theorem ggL_hangs_L_sumLeft : GoodIn wsL_hangs wsL_sumLeft := goodIn_ca (goodIn_r _ [120, 98, 121, 122, 123, 124, 10, 125, 14, 103, 104, 105, 106, 107, 108, 15, 16, 17, 18, 19, 20, 21, 22, 23, 24, 25, 26, 27, 28, 29, 30, 31, 32, 33, 34, 35, 36, 37, 38, 39, 40, 41, 42, 43, 44, 45, 46, 47, 48, 49, 50, 51, 52, 53, 54, 55, 56, 57, 58, 59, 60, 61, 62, 63, 64, 65, 66, 67, 126, 127, 128, 129, 165, 166, 167, 168, 169, 175, 176, 177, 178, 179, 170, 171, 172, 173, 174] (by decide +kernel) (by decide +kernel)) (goodIn_sub (fun _ h => List.mem_cons_of_mem _ (List.mem_append_right _ h)) (by decide +kernel))
set_option maxRecDepth 20000 in
theorem gL_hangs_L_sumLeft : GoodIn wsL_hangs (va_wsS RL 70 yL_sumLeft wsL_sumLeft) := goodIn_app (goodIn_of _ (by decide +kernel)) ggL_hangs_L_sumLeft
set_option maxRecDepth 20000 in
theorem ggL_hangs_X6_quotientOf : GoodIn wsL_hangs wsX6_quotientOf := goodIn_r _ [133, 14, 15, 16, 17, 18, 19, 20, 21, 22, 23, 24, 25, 26, 27, 28, 29, 30, 31, 32, 33, 34, 35, 36, 37, 38, 39, 40, 41, 42, 43, 44, 45, 46, 47, 48, 49, 50, 51, 52, 53, 54, 55, 56, 57, 58, 59, 60, 61, 62, 63, 64, 65, 66, 67, 134, 165, 166, 167, 168, 169, 170, 171, 172, 173, 174, 175, 176, 177, 178, 179] (by decide +kernel) (by decide +kernel)
set_option maxRecDepth 20000 in
theorem gL_hangs_X6_quotientOf : GoodIn wsL_hangs (wsV RL 73 RX6 yX6_quotientOf wsX6_quotientOf) := goodIn_app (goodIn_of _ (by decide +kernel)) ggL_hangs_X6_quotientOf
set_option maxRecDepth 20000 in
theorem ggL_hangs_L_restLeft : GoodIn wsL_hangs wsL_restLeft := goodIn_ca (goodIn_ca (goodIn_r _ [137, 98, 6, 1, 138, 139, 140, 141, 10, 142, 12, 13, 14, 103, 104, 105, 106, 107, 108, 15, 16, 17, 18, 19, 20, 21, 22, 23, 24, 25, 26, 27, 28, 29, 30, 31, 32, 33, 34, 35, 36, 37, 38, 39, 40, 41, 42, 43, 44, 45, 46, 47, 48, 49, 50, 51, 52, 53, 54, 55, 56, 57, 58, 59, 60, 61, 62, 63, 64, 65, 66, 67, 143, 88, 89, 144, 85, 86, 87, 165, 166, 167, 168, 169, 175, 176, 177, 178, 179, 170, 171, 172, 173, 174] (by decide +kernel) (by decide +kernel)) (goodIn_sub (fun _ h => List.mem_cons_of_mem _ (List.mem_append_left _ (List.mem_append_right _ h))) (by decide +kernel))) (goodIn_sub (fun _ h => List.mem_cons_of_mem _ (List.mem_append_right _ h)) (by decide +kernel))
set_option maxRecDepth 20000 in
theorem gL_hangs_L_restLeft : GoodIn wsL_hangs (va_wsS RL 76 yL_restLeft wsL_restLeft) := goodIn_app (goodIn_of _ (by decide +kernel)) ggL_hangs_L_restLeft
set_option maxRecDepth 20000 in
theorem ggL_hangs_L_wouldStrike : GoodIn wsL_hangs wsL_wouldStrike := goodIn_ca (goodIn_r _ [147, 98, 1, 148, 149, 150, 10, 151, 14, 103, 104, 105, 106, 107, 108, 15, 16, 17, 18, 19, 20, 21, 22, 23, 24, 25, 26, 27, 28, 29, 30, 31, 32, 33, 34, 35, 36, 37, 38, 39, 40, 41, 42, 43, 44, 45, 46, 47, 48, 49, 50, 51, 52, 53, 54, 55, 56, 57, 58, 59, 60, 61, 62, 63, 64, 65, 66, 67, 90, 91, 92, 93, 152, 153, 154, 155, 156, 81, 82, 83, 84, 85, 86, 87, 88, 89, 165, 166, 167, 168, 169, 175, 176, 177, 178, 179, 170, 171, 172, 173, 174] (by decide +kernel) (by decide +kernel)) (goodIn_sub (fun _ h => List.mem_cons_of_mem _ (List.mem_append_right _ h)) (by decide +kernel))
set_option maxRecDepth 20000 in
theorem gL_hangs_L_wouldStrike : GoodIn wsL_hangs (va_wsS RL 79 yL_wouldStrike wsL_wouldStrike) := goodIn_app (goodIn_of _ (by decide +kernel)) ggL_hangs_L_wouldStrike
set_option maxRecDepth 20000 in
theorem ggL_hangs_L_came : GoodIn wsL_hangs wsL_came := goodIn_ca (goodIn_r _ [159, 6, 1, 160, 161, 162, 10, 163, 12, 13, 14, 94, 53, 54, 18, 55, 164, 48, 49, 50, 51, 165, 166, 167, 168, 169, 170, 171, 172, 173, 174] (by decide +kernel) (by decide +kernel)) (goodIn_sub (fun _ h => List.mem_cons_of_mem _ (List.mem_append_left _ (List.mem_append_right _ h))) (by decide +kernel))
set_option maxRecDepth 20000 in
theorem gL_hangs_L_came : GoodIn wsL_hangs (va_wsS RL 81 yL_came wsL_came) := goodIn_app (goodIn_of _ (by decide +kernel)) ggL_hangs_L_came
theorem dL_hangs_0 : decode cL_hangs 0 = .ok (.aload_n 0, 1) := by decide +kernel
theorem dL_hangs_1 : decode cL_hangs 1 = .ok (.iconst 0, 1) := by decide +kernel
theorem dL_hangs_2 : decode cL_hangs 2 = .ok (.invokestatic 61, 3) := by decide +kernel
theorem dL_hangs_5 : decode cL_hangs 5 = .ok (.istore_n 1, 1) := by decide +kernel
theorem dL_hangs_6 : decode cL_hangs 6 = .ok (.aload_n 0, 1) := by decide +kernel
theorem dL_hangs_7 : decode cL_hangs 7 = .ok (.iconst 1, 1) := by decide +kernel
theorem dL_hangs_8 : decode cL_hangs 8 = .ok (.invokestatic 61, 3) := by decide +kernel
theorem dL_hangs_11 : decode cL_hangs 11 = .ok (.istore_n 2, 1) := by decide +kernel
theorem dL_hangs_12 : decode cL_hangs 12 = .ok (.iload_n 1, 1) := by decide +kernel
theorem dL_hangs_13 : decode cL_hangs 13 = .ok (.iconst 1, 1) := by decide +kernel
theorem dL_hangs_14 : decode cL_hangs 14 = .ok (.iadd, 1) := by decide +kernel
theorem dL_hangs_15 : decode cL_hangs 15 = .ok (.istore_n 3, 1) := by decide +kernel
theorem dL_hangs_16 : decode cL_hangs 16 = .ok (.iload_n 1, 1) := by decide +kernel
theorem dL_hangs_17 : decode cL_hangs 17 = .ok (.iconst 1, 1) := by decide +kernel
theorem dL_hangs_18 : decode cL_hangs 18 = .ok (.iadd, 1) := by decide +kernel
theorem dL_hangs_19 : decode cL_hangs 19 = .ok (.istore 4, 2) := by decide +kernel
theorem dL_hangs_21 : decode cL_hangs 21 = .ok (.aload_n 0, 1) := by decide +kernel
theorem dL_hangs_22 : decode cL_hangs 22 = .ok (.iconst 0, 1) := by decide +kernel
theorem dL_hangs_23 : decode cL_hangs 23 = .ok (.invokestatic 66, 3) := by decide +kernel
theorem dL_hangs_26 : decode cL_hangs 26 = .ok (.iload_n 1, 1) := by decide +kernel
theorem dL_hangs_27 : decode cL_hangs 27 = .ok (.if_icmp .ne 84, 3) := by decide +kernel
theorem dL_hangs_30 : decode cL_hangs 30 = .ok (.aload_n 0, 1) := by decide +kernel
theorem dL_hangs_31 : decode cL_hangs 31 = .ok (.iload_n 2, 1) := by decide +kernel
theorem dL_hangs_32 : decode cL_hangs 32 = .ok (.invokestatic 66, 3) := by decide +kernel
theorem dL_hangs_35 : decode cL_hangs 35 = .ok (.ldc 17, 2) := by decide +kernel
theorem dL_hangs_37 : decode cL_hangs 37 = .ok (.if_icmp .ne 74, 3) := by decide +kernel
theorem dL_hangs_40 : decode cL_hangs 40 = .ok (.aload_n 0, 1) := by decide +kernel
theorem dL_hangs_41 : decode cL_hangs 41 = .ok (.iload_n 2, 1) := by decide +kernel
theorem dL_hangs_42 : decode cL_hangs 42 = .ok (.iconst 1, 1) := by decide +kernel
theorem dL_hangs_43 : decode cL_hangs 43 = .ok (.isub, 1) := by decide +kernel
theorem dL_hangs_44 : decode cL_hangs 44 = .ok (.invokestatic 66, 3) := by decide +kernel
theorem dL_hangs_47 : decode cL_hangs 47 = .ok (.iconst 1, 1) := by decide +kernel
theorem dL_hangs_48 : decode cL_hangs 48 = .ok (.if_icmp .ne 63, 3) := by decide +kernel
theorem dL_hangs_51 : decode cL_hangs 51 = .ok (.aload_n 0, 1) := by decide +kernel
theorem dL_hangs_52 : decode cL_hangs 52 = .ok (.iconst 0, 1) := by decide +kernel
theorem dL_hangs_53 : decode cL_hangs 53 = .ok (.invokestatic 68, 3) := by decide +kernel
theorem dL_hangs_56 : decode cL_hangs 56 = .ok (.aload_n 0, 1) := by decide +kernel
theorem dL_hangs_57 : decode cL_hangs 57 = .ok (.iconst 4, 1) := by decide +kernel
theorem dL_hangs_58 : decode cL_hangs 58 = .ok (.invokestatic 61, 3) := by decide +kernel
theorem dL_hangs_61 : decode cL_hangs 61 = .ok (.if_icmp .ne 50, 3) := by decide +kernel
theorem dL_hangs_64 : decode cL_hangs 64 = .ok (.aload_n 0, 1) := by decide +kernel
theorem dL_hangs_65 : decode cL_hangs 65 = .ok (.iload_n 2, 1) := by decide +kernel
theorem dL_hangs_66 : decode cL_hangs 66 = .ok (.iconst 1, 1) := by decide +kernel
theorem dL_hangs_67 : decode cL_hangs 67 = .ok (.isub, 1) := by decide +kernel
theorem dL_hangs_68 : decode cL_hangs 68 = .ok (.invokestatic 68, 3) := by decide +kernel
theorem dL_hangs_71 : decode cL_hangs 71 = .ok (.iconst 1, 1) := by decide +kernel
theorem dL_hangs_72 : decode cL_hangs 72 = .ok (.if_icmp .ne 39, 3) := by decide +kernel
theorem dL_hangs_75 : decode cL_hangs 75 = .ok (.aload_n 0, 1) := by decide +kernel
theorem dL_hangs_76 : decode cL_hangs 76 = .ok (.iload_n 2, 1) := by decide +kernel
theorem dL_hangs_77 : decode cL_hangs 77 = .ok (.iconst 1, 1) := by decide +kernel
theorem dL_hangs_78 : decode cL_hangs 78 = .ok (.isub, 1) := by decide +kernel
theorem dL_hangs_79 : decode cL_hangs 79 = .ok (.invokestatic 70, 3) := by decide +kernel
theorem dL_hangs_82 : decode cL_hangs 82 = .ok (.lconst 1, 1) := by decide +kernel
theorem dL_hangs_83 : decode cL_hangs 83 = .ok (.lcmp, 1) := by decide +kernel
theorem dL_hangs_84 : decode cL_hangs 84 = .ok (.ifCond .ne 27, 3) := by decide +kernel
theorem dL_hangs_87 : decode cL_hangs 87 = .ok (.aload_n 0, 1) := by decide +kernel
theorem dL_hangs_88 : decode cL_hangs 88 = .ok (.iconst 0, 1) := by decide +kernel
theorem dL_hangs_89 : decode cL_hangs 89 = .ok (.invokevirtual 73, 3) := by decide +kernel
theorem dL_hangs_92 : decode cL_hangs 92 = .ok (.iconst (-1), 1) := by decide +kernel
theorem dL_hangs_93 : decode cL_hangs 93 = .ok (.if_icmp .ne 18, 3) := by decide +kernel
theorem dL_hangs_96 : decode cL_hangs 96 = .ok (.aload_n 0, 1) := by decide +kernel
theorem dL_hangs_97 : decode cL_hangs 97 = .ok (.iload_n 1, 1) := by decide +kernel
theorem dL_hangs_98 : decode cL_hangs 98 = .ok (.iconst 1, 1) := by decide +kernel
theorem dL_hangs_99 : decode cL_hangs 99 = .ok (.iadd, 1) := by decide +kernel
theorem dL_hangs_100 : decode cL_hangs 100 = .ok (.invokevirtual 73, 3) := by decide +kernel
theorem dL_hangs_103 : decode cL_hangs 103 = .ok (.iconst (-1), 1) := by decide +kernel
theorem dL_hangs_104 : decode cL_hangs 104 = .ok (.if_icmp .ne 7, 3) := by decide +kernel
theorem dL_hangs_107 : decode cL_hangs 107 = .ok (.iconst 1, 1) := by decide +kernel
theorem dL_hangs_108 : decode cL_hangs 108 = .ok (.goto 4, 3) := by decide +kernel
theorem dL_hangs_111 : decode cL_hangs 111 = .ok (.iconst 0, 1) := by decide +kernel
theorem dL_hangs_112 : decode cL_hangs 112 = .ok (.istore 5, 2) := by decide +kernel
theorem dL_hangs_114 : decode cL_hangs 114 = .ok (.iconst 0, 1) := by decide +kernel
theorem dL_hangs_115 : decode cL_hangs 115 = .ok (.istore 6, 2) := by decide +kernel
theorem dL_hangs_117 : decode cL_hangs 117 = .ok (.iload 6, 2) := by decide +kernel
theorem dL_hangs_119 : decode cL_hangs 119 = .ok (.iload_n 2, 1) := by decide +kernel
theorem dL_hangs_120 : decode cL_hangs 120 = .ok (.if_icmp .ge 178, 3) := by decide +kernel
theorem dL_hangs_123 : decode cL_hangs 123 = .ok (.iload 5, 2) := by decide +kernel
theorem dL_hangs_125 : decode cL_hangs 125 = .ok (.ifCond .eq 173, 3) := by decide +kernel
theorem dL_hangs_128 : decode cL_hangs 128 = .ok (.aload_n 0, 1) := by decide +kernel
theorem dL_hangs_129 : decode cL_hangs 129 = .ok (.iload 6, 2) := by decide +kernel
theorem dL_hangs_131 : decode cL_hangs 131 = .ok (.invokestatic 66, 3) := by decide +kernel
theorem dL_hangs_134 : decode cL_hangs 134 = .ok (.istore 7, 2) := by decide +kernel
theorem dL_hangs_136 : decode cL_hangs 136 = .ok (.aload_n 0, 1) := by decide +kernel
theorem dL_hangs_137 : decode cL_hangs 137 = .ok (.iload 6, 2) := by decide +kernel
theorem dL_hangs_139 : decode cL_hangs 139 = .ok (.invokestatic 68, 3) := by decide +kernel
theorem dL_hangs_142 : decode cL_hangs 142 = .ok (.istore 8, 2) := by decide +kernel
theorem dL_hangs_144 : decode cL_hangs 144 = .ok (.iload 7, 2) := by decide +kernel
theorem dL_hangs_146 : decode cL_hangs 146 = .ok (.iload_n 3, 1) := by decide +kernel
theorem dL_hangs_147 : decode cL_hangs 147 = .ok (.if_icmp .ge 55, 3) := by decide +kernel
theorem dL_hangs_150 : decode cL_hangs 150 = .ok (.iload 7, 2) := by decide +kernel
theorem dL_hangs_152 : decode cL_hangs 152 = .ok (.iconst 1, 1) := by decide +kernel
theorem dL_hangs_153 : decode cL_hangs 153 = .ok (.if_icmp .lt 49, 3) := by decide +kernel
theorem dL_hangs_156 : decode cL_hangs 156 = .ok (.iload_n 1, 1) := by decide +kernel
theorem dL_hangs_157 : decode cL_hangs 157 = .ok (.iload_n 1, 1) := by decide +kernel
theorem dL_hangs_158 : decode cL_hangs 158 = .ok (.iload 7, 2) := by decide +kernel
theorem dL_hangs_160 : decode cL_hangs 160 = .ok (.idiv, 1) := by decide +kernel
theorem dL_hangs_161 : decode cL_hangs 161 = .ok (.idiv, 1) := by decide +kernel
theorem dL_hangs_162 : decode cL_hangs 162 = .ok (.iload 7, 2) := by decide +kernel
theorem dL_hangs_164 : decode cL_hangs 164 = .ok (.if_icmp .ne 38, 3) := by decide +kernel
theorem dL_hangs_167 : decode cL_hangs 167 = .ok (.aload_n 0, 1) := by decide +kernel
theorem dL_hangs_168 : decode cL_hangs 168 = .ok (.iload 7, 2) := by decide +kernel
theorem dL_hangs_170 : decode cL_hangs 170 = .ok (.invokevirtual 73, 3) := by decide +kernel
theorem dL_hangs_173 : decode cL_hangs 173 = .ok (.iload 6, 2) := by decide +kernel
theorem dL_hangs_175 : decode cL_hangs 175 = .ok (.if_icmp .ne 27, 3) := by decide +kernel
theorem dL_hangs_178 : decode cL_hangs 178 = .ok (.iload 8, 2) := by decide +kernel
theorem dL_hangs_180 : decode cL_hangs 180 = .ok (.iload 4, 2) := by decide +kernel
theorem dL_hangs_182 : decode cL_hangs 182 = .ok (.if_icmp .gt 20, 3) := by decide +kernel
theorem dL_hangs_185 : decode cL_hangs 185 = .ok (.iload 8, 2) := by decide +kernel
theorem dL_hangs_187 : decode cL_hangs 187 = .ok (.iconst 1, 1) := by decide +kernel
theorem dL_hangs_188 : decode cL_hangs 188 = .ok (.if_icmp .lt 14, 3) := by decide +kernel
theorem dL_hangs_191 : decode cL_hangs 191 = .ok (.iload 8, 2) := by decide +kernel
theorem dL_hangs_193 : decode cL_hangs 193 = .ok (.iload 7, 2) := by decide +kernel
theorem dL_hangs_195 : decode cL_hangs 195 = .ok (.if_icmp .gt 7, 3) := by decide +kernel
theorem dL_hangs_198 : decode cL_hangs 198 = .ok (.iconst 1, 1) := by decide +kernel
theorem dL_hangs_199 : decode cL_hangs 199 = .ok (.goto 4, 3) := by decide +kernel
theorem dL_hangs_202 : decode cL_hangs 202 = .ok (.iconst 0, 1) := by decide +kernel
theorem dL_hangs_203 : decode cL_hangs 203 = .ok (.istore 5, 2) := by decide +kernel
theorem dL_hangs_205 : decode cL_hangs 205 = .ok (.iload 7, 2) := by decide +kernel
theorem dL_hangs_207 : decode cL_hangs 207 = .ok (.istore_n 3, 1) := by decide +kernel
theorem dL_hangs_208 : decode cL_hangs 208 = .ok (.iload 8, 2) := by decide +kernel
theorem dL_hangs_210 : decode cL_hangs 210 = .ok (.istore 4, 2) := by decide +kernel
theorem dL_hangs_212 : decode cL_hangs 212 = .ok (.iload 5, 2) := by decide +kernel
theorem dL_hangs_214 : decode cL_hangs 214 = .ok (.ifCond .eq 78, 3) := by decide +kernel
theorem dL_hangs_217 : decode cL_hangs 217 = .ok (.iload 6, 2) := by decide +kernel
theorem dL_hangs_219 : decode cL_hangs 219 = .ok (.bipush 7, 2) := by decide +kernel
theorem dL_hangs_221 : decode cL_hangs 221 = .ok (.irem, 1) := by decide +kernel
theorem dL_hangs_222 : decode cL_hangs 222 = .ok (.ifCond .ne 70, 3) := by decide +kernel
theorem dL_hangs_225 : decode cL_hangs 225 = .ok (.aload_n 0, 1) := by decide +kernel
theorem dL_hangs_226 : decode cL_hangs 226 = .ok (.iload 6, 2) := by decide +kernel
theorem dL_hangs_228 : decode cL_hangs 228 = .ok (.iconst 0, 1) := by decide +kernel
theorem dL_hangs_229 : decode cL_hangs 229 = .ok (.invokestatic 76, 3) := by decide +kernel
theorem dL_hangs_232 : decode cL_hangs 232 = .ok (.aload_n 0, 1) := by decide +kernel
theorem dL_hangs_233 : decode cL_hangs 233 = .ok (.iload 6, 2) := by decide +kernel
theorem dL_hangs_235 : decode cL_hangs 235 = .ok (.iconst 1, 1) := by decide +kernel
theorem dL_hangs_236 : decode cL_hangs 236 = .ok (.invokestatic 76, 3) := by decide +kernel
theorem dL_hangs_239 : decode cL_hangs 239 = .ok (.iadd, 1) := by decide +kernel
theorem dL_hangs_240 : decode cL_hangs 240 = .ok (.aload_n 0, 1) := by decide +kernel
theorem dL_hangs_241 : decode cL_hangs 241 = .ok (.iload 6, 2) := by decide +kernel
theorem dL_hangs_243 : decode cL_hangs 243 = .ok (.iconst 2, 1) := by decide +kernel
theorem dL_hangs_244 : decode cL_hangs 244 = .ok (.invokestatic 76, 3) := by decide +kernel
theorem dL_hangs_247 : decode cL_hangs 247 = .ok (.iadd, 1) := by decide +kernel
theorem dL_hangs_248 : decode cL_hangs 248 = .ok (.aload_n 0, 1) := by decide +kernel
theorem dL_hangs_249 : decode cL_hangs 249 = .ok (.iload 6, 2) := by decide +kernel
theorem dL_hangs_251 : decode cL_hangs 251 = .ok (.iconst 3, 1) := by decide +kernel
theorem dL_hangs_252 : decode cL_hangs 252 = .ok (.invokestatic 76, 3) := by decide +kernel
theorem dL_hangs_255 : decode cL_hangs 255 = .ok (.iadd, 1) := by decide +kernel
theorem dL_hangs_256 : decode cL_hangs 256 = .ok (.iload 8, 2) := by decide +kernel
theorem dL_hangs_258 : decode cL_hangs 258 = .ok (.if_icmp .ne 31, 3) := by decide +kernel
theorem dL_hangs_261 : decode cL_hangs 261 = .ok (.aload_n 0, 1) := by decide +kernel
theorem dL_hangs_262 : decode cL_hangs 262 = .ok (.iload 6, 2) := by decide +kernel
theorem dL_hangs_264 : decode cL_hangs 264 = .ok (.invokestatic 70, 3) := by decide +kernel
theorem dL_hangs_267 : decode cL_hangs 267 = .ok (.iload 8, 2) := by decide +kernel
theorem dL_hangs_269 : decode cL_hangs 269 = .ok (.i2l, 1) := by decide +kernel
theorem dL_hangs_270 : decode cL_hangs 270 = .ok (.lcmp, 1) := by decide +kernel
theorem dL_hangs_271 : decode cL_hangs 271 = .ok (.ifCond .lt 18, 3) := by decide +kernel
theorem dL_hangs_274 : decode cL_hangs 274 = .ok (.aload_n 0, 1) := by decide +kernel
theorem dL_hangs_275 : decode cL_hangs 275 = .ok (.iload 6, 2) := by decide +kernel
theorem dL_hangs_277 : decode cL_hangs 277 = .ok (.invokestatic 79, 3) := by decide +kernel
theorem dL_hangs_280 : decode cL_hangs 280 = .ok (.iload 8, 2) := by decide +kernel
theorem dL_hangs_282 : decode cL_hangs 282 = .ok (.if_icmp .gt 7, 3) := by decide +kernel
theorem dL_hangs_285 : decode cL_hangs 285 = .ok (.iconst 1, 1) := by decide +kernel
theorem dL_hangs_286 : decode cL_hangs 286 = .ok (.goto 4, 3) := by decide +kernel
theorem dL_hangs_289 : decode cL_hangs 289 = .ok (.iconst 0, 1) := by decide +kernel
theorem dL_hangs_290 : decode cL_hangs 290 = .ok (.istore 5, 2) := by decide +kernel
theorem dL_hangs_292 : decode cL_hangs 292 = .ok (.iinc 6 1, 3) := by decide +kernel
theorem dL_hangs_295 : decode cL_hangs 295 = .ok (.goto (-178), 3) := by decide +kernel
theorem dL_hangs_298 : decode cL_hangs 298 = .ok (.iconst 0, 1) := by decide +kernel
theorem dL_hangs_299 : decode cL_hangs 299 = .ok (.istore 6, 2) := by decide +kernel
theorem dL_hangs_301 : decode cL_hangs 301 = .ok (.iconst 0, 1) := by decide +kernel
theorem dL_hangs_302 : decode cL_hangs 302 = .ok (.istore 7, 2) := by decide +kernel
theorem dL_hangs_304 : decode cL_hangs 304 = .ok (.iconst (-1), 1) := by decide +kernel
theorem dL_hangs_305 : decode cL_hangs 305 = .ok (.istore 8, 2) := by decide +kernel
theorem dL_hangs_307 : decode cL_hangs 307 = .ok (.iconst 0, 1) := by decide +kernel
theorem dL_hangs_308 : decode cL_hangs 308 = .ok (.istore 9, 2) := by decide +kernel
theorem dL_hangs_310 : decode cL_hangs 310 = .ok (.aload_n 0, 1) := by decide +kernel
theorem dL_hangs_311 : decode cL_hangs 311 = .ok (.iload 9, 2) := by decide +kernel
theorem dL_hangs_313 : decode cL_hangs 313 = .ok (.invokestatic 81, 3) := by decide +kernel
theorem dL_hangs_316 : decode cL_hangs 316 = .ok (.ifCond .eq 92, 3) := by decide +kernel
theorem dL_hangs_319 : decode cL_hangs 319 = .ok (.iload 5, 2) := by decide +kernel
theorem dL_hangs_321 : decode cL_hangs 321 = .ok (.ifCond .eq 87, 3) := by decide +kernel
theorem dL_hangs_324 : decode cL_hangs 324 = .ok (.aload_n 0, 1) := by decide +kernel
theorem dL_hangs_325 : decode cL_hangs 325 = .ok (.iload 9, 2) := by decide +kernel
theorem dL_hangs_327 : decode cL_hangs 327 = .ok (.invokestatic 81, 3) := by decide +kernel
theorem dL_hangs_330 : decode cL_hangs 330 = .ok (.istore 10, 2) := by decide +kernel
theorem dL_hangs_332 : decode cL_hangs 332 = .ok (.iload 6, 2) := by decide +kernel
theorem dL_hangs_334 : decode cL_hangs 334 = .ok (.iload 10, 2) := by decide +kernel
theorem dL_hangs_336 : decode cL_hangs 336 = .ok (.ifCond .le 7, 3) := by decide +kernel
theorem dL_hangs_339 : decode cL_hangs 339 = .ok (.iconst 1, 1) := by decide +kernel
theorem dL_hangs_340 : decode cL_hangs 340 = .ok (.goto 4, 3) := by decide +kernel
theorem dL_hangs_343 : decode cL_hangs 343 = .ok (.iconst 0, 1) := by decide +kernel
theorem dL_hangs_344 : decode cL_hangs 344 = .ok (.iadd, 1) := by decide +kernel
theorem dL_hangs_345 : decode cL_hangs 345 = .ok (.istore 6, 2) := by decide +kernel
theorem dL_hangs_347 : decode cL_hangs 347 = .ok (.iload 7, 2) := by decide +kernel
theorem dL_hangs_349 : decode cL_hangs 349 = .ok (.iload 10, 2) := by decide +kernel
theorem dL_hangs_351 : decode cL_hangs 351 = .ok (.ifCond .le 7, 3) := by decide +kernel
theorem dL_hangs_354 : decode cL_hangs 354 = .ok (.iconst 0, 1) := by decide +kernel
theorem dL_hangs_355 : decode cL_hangs 355 = .ok (.goto 4, 3) := by decide +kernel
theorem dL_hangs_358 : decode cL_hangs 358 = .ok (.iconst 1, 1) := by decide +kernel
theorem dL_hangs_359 : decode cL_hangs 359 = .ok (.iadd, 1) := by decide +kernel
theorem dL_hangs_360 : decode cL_hangs 360 = .ok (.istore 7, 2) := by decide +kernel
theorem dL_hangs_362 : decode cL_hangs 362 = .ok (.iload 10, 2) := by decide +kernel
theorem dL_hangs_364 : decode cL_hangs 364 = .ok (.ifCond .le 8, 3) := by decide +kernel
theorem dL_hangs_367 : decode cL_hangs 367 = .ok (.iload 10, 2) := by decide +kernel
theorem dL_hangs_369 : decode cL_hangs 369 = .ok (.goto 6, 3) := by decide +kernel
theorem dL_hangs_372 : decode cL_hangs 372 = .ok (.iload 10, 2) := by decide +kernel
theorem dL_hangs_374 : decode cL_hangs 374 = .ok (.ineg, 1) := by decide +kernel
theorem dL_hangs_375 : decode cL_hangs 375 = .ok (.iload 8, 2) := by decide +kernel
theorem dL_hangs_377 : decode cL_hangs 377 = .ok (.if_icmp .le 7, 3) := by decide +kernel
theorem dL_hangs_380 : decode cL_hangs 380 = .ok (.iconst 1, 1) := by decide +kernel
theorem dL_hangs_381 : decode cL_hangs 381 = .ok (.goto 4, 3) := by decide +kernel
theorem dL_hangs_384 : decode cL_hangs 384 = .ok (.iconst 0, 1) := by decide +kernel
theorem dL_hangs_385 : decode cL_hangs 385 = .ok (.istore 5, 2) := by decide +kernel
theorem dL_hangs_387 : decode cL_hangs 387 = .ok (.iload 10, 2) := by decide +kernel
theorem dL_hangs_389 : decode cL_hangs 389 = .ok (.ifCond .le 8, 3) := by decide +kernel
theorem dL_hangs_392 : decode cL_hangs 392 = .ok (.iload 10, 2) := by decide +kernel
theorem dL_hangs_394 : decode cL_hangs 394 = .ok (.goto 6, 3) := by decide +kernel
theorem dL_hangs_397 : decode cL_hangs 397 = .ok (.iload 10, 2) := by decide +kernel
theorem dL_hangs_399 : decode cL_hangs 399 = .ok (.ineg, 1) := by decide +kernel
theorem dL_hangs_400 : decode cL_hangs 400 = .ok (.istore 8, 2) := by decide +kernel
theorem dL_hangs_402 : decode cL_hangs 402 = .ok (.iinc 9 1, 3) := by decide +kernel
theorem dL_hangs_405 : decode cL_hangs 405 = .ok (.goto (-95), 3) := by decide +kernel
theorem dL_hangs_408 : decode cL_hangs 408 = .ok (.iload 5, 2) := by decide +kernel
theorem dL_hangs_410 : decode cL_hangs 410 = .ok (.ifCond .eq 66, 3) := by decide +kernel
theorem dL_hangs_413 : decode cL_hangs 413 = .ok (.aload_n 0, 1) := by decide +kernel
theorem dL_hangs_414 : decode cL_hangs 414 = .ok (.iconst 2, 1) := by decide +kernel
theorem dL_hangs_415 : decode cL_hangs 415 = .ok (.invokestatic 61, 3) := by decide +kernel
theorem dL_hangs_418 : decode cL_hangs 418 = .ok (.iload 6, 2) := by decide +kernel
theorem dL_hangs_420 : decode cL_hangs 420 = .ok (.if_icmp .ne 56, 3) := by decide +kernel
theorem dL_hangs_423 : decode cL_hangs 423 = .ok (.aload_n 0, 1) := by decide +kernel
theorem dL_hangs_424 : decode cL_hangs 424 = .ok (.iconst 3, 1) := by decide +kernel
theorem dL_hangs_425 : decode cL_hangs 425 = .ok (.invokestatic 61, 3) := by decide +kernel
theorem dL_hangs_428 : decode cL_hangs 428 = .ok (.iload 7, 2) := by decide +kernel
theorem dL_hangs_430 : decode cL_hangs 430 = .ok (.if_icmp .ne 46, 3) := by decide +kernel
theorem dL_hangs_433 : decode cL_hangs 433 = .ok (.aload_n 0, 1) := by decide +kernel
theorem dL_hangs_434 : decode cL_hangs 434 = .ok (.bipush 6, 2) := by decide +kernel
theorem dL_hangs_436 : decode cL_hangs 436 = .ok (.invokestatic 61, 3) := by decide +kernel
theorem dL_hangs_439 : decode cL_hangs 439 = .ok (.iload 8, 2) := by decide +kernel
theorem dL_hangs_441 : decode cL_hangs 441 = .ok (.if_icmp .ne 35, 3) := by decide +kernel
theorem dL_hangs_444 : decode cL_hangs 444 = .ok (.aload_n 0, 1) := by decide +kernel
theorem dL_hangs_445 : decode cL_hangs 445 = .ok (.iconst 5, 1) := by decide +kernel
theorem dL_hangs_446 : decode cL_hangs 446 = .ok (.invokestatic 61, 3) := by decide +kernel
theorem dL_hangs_449 : decode cL_hangs 449 = .ok (.iconst (-1), 1) := by decide +kernel
theorem dL_hangs_450 : decode cL_hangs 450 = .ok (.if_icmp .eq 22, 3) := by decide +kernel
theorem dL_hangs_453 : decode cL_hangs 453 = .ok (.aload_n 0, 1) := by decide +kernel
theorem dL_hangs_454 : decode cL_hangs 454 = .ok (.iconst 5, 1) := by decide +kernel
theorem dL_hangs_455 : decode cL_hangs 455 = .ok (.invokestatic 61, 3) := by decide +kernel
theorem dL_hangs_458 : decode cL_hangs 458 = .ok (.iload 8, 2) := by decide +kernel
theorem dL_hangs_460 : decode cL_hangs 460 = .ok (.if_icmp .le 16, 3) := by decide +kernel
theorem dL_hangs_463 : decode cL_hangs 463 = .ok (.aload_n 0, 1) := by decide +kernel
theorem dL_hangs_464 : decode cL_hangs 464 = .ok (.iconst 5, 1) := by decide +kernel
theorem dL_hangs_465 : decode cL_hangs 465 = .ok (.invokestatic 61, 3) := by decide +kernel
theorem dL_hangs_468 : decode cL_hangs 468 = .ok (.iload_n 1, 1) := by decide +kernel
theorem dL_hangs_469 : decode cL_hangs 469 = .ok (.if_icmp .gt 7, 3) := by decide +kernel
theorem dL_hangs_472 : decode cL_hangs 472 = .ok (.iconst 1, 1) := by decide +kernel
theorem dL_hangs_473 : decode cL_hangs 473 = .ok (.goto 4, 3) := by decide +kernel
theorem dL_hangs_476 : decode cL_hangs 476 = .ok (.iconst 0, 1) := by decide +kernel
theorem dL_hangs_477 : decode cL_hangs 477 = .ok (.ireturn, 1) := by decide +kernel
set_option maxRecDepth 20000 in
theorem ggL_law_X6_init : GoodIn wsL_law wsX6_init := goodIn_r _ [8, 9, 10, 11, 12, 13, 14, 15, 16, 17, 18, 19, 20, 21, 22, 23, 24, 25, 26, 27, 28, 29, 30, 31, 32, 33, 34, 35, 36, 37, 38, 39, 40, 41, 42, 43, 44, 45, 46, 47, 48, 49, 50, 51, 52, 53, 54, 55, 56, 57, 58, 59, 60, 61, 62, 63, 64, 65, 66, 67, 68, 69, 70, 71, 72, 73, 74, 75, 320, 321, 322, 323, 324, 325, 326, 315, 316, 317, 318, 319, 327, 328, 329, 330, 331, 332, 333, 334, 335, 336, 337, 338, 339, 340, 341, 342] (by decide +kernel) (by decide +kernel)
set_option maxRecDepth 20000 in
theorem gL_law_X6_init : GoodIn wsL_law (wsX6_init) := ggL_law_X6_init
set_option maxRecDepth 20000 in
theorem ggL_law_L_about : GoodIn wsL_law wsL_about := goodIn_ca (goodIn_r _ [79, 80, 3, 81, 82, 83, 2, 84, 85, 86, 19, 87, 88, 89, 18, 90, 61, 41, 58, 59, 91, 92, 93, 40, 94, 95, 96, 97, 98, 99, 100, 101, 102, 103, 104, 46, 49, 105, 47, 106, 107, 108, 109, 110, 111, 112, 113, 60, 114, 115, 116, 117, 118, 119, 120, 121, 122, 123, 124, 125, 126, 127, 128, 129, 130, 131, 132, 133, 134, 135, 136, 137, 138, 139, 140, 141, 142, 143, 144, 145, 146, 147, 148, 149, 150, 151, 152, 153, 154, 155, 156, 315, 316, 317, 318, 319, 327, 328, 329, 330, 331, 338, 339, 340, 341, 342] (by decide +kernel) (by decide +kernel)) (goodIn_sub (fun _ h => List.mem_append_left _ (List.mem_append_left _ (List.mem_append_right _ h))) (by decide +kernel))
set_option maxRecDepth 20000 in
theorem gL_law_L_about : GoodIn wsL_law (va_wsS RL 61 yL_about wsL_about) := goodIn_app (goodIn_of _ (by decide +kernel)) ggL_law_L_about
set_option maxRecDepth 20000 in
theorem ggL_law_L_undo : GoodIn wsL_law wsL_undo := goodIn_ca (goodIn_r _ [159, 160, 3, 161, 162, 163, 2, 164, 165, 166, 23, 19, 167, 168, 169, 22, 170, 171, 172, 173, 98, 99, 100, 174, 175, 176, 177, 65, 66, 67, 150, 151, 178, 55, 56, 18, 57, 58, 59, 60, 61, 315, 316, 317, 318, 319, 332, 333, 334, 335, 336, 327, 328, 329, 330, 331] (by decide +kernel) (by decide +kernel)) (goodIn_sub (fun _ h => List.mem_append_left _ (List.mem_append_right _ h)) (by decide +kernel))
set_option maxRecDepth 20000 in
theorem gL_law_L_undo : GoodIn wsL_law (va_wsS RL 84 yL_undo wsL_undo) := goodIn_app (goodIn_of _ (by decide +kernel)) ggL_law_L_undo
set_option maxRecDepth 20000 in
theorem ggL_law_L_hangs : GoodIn wsL_law wsL_hangs := goodIn_ca (goodIn_ca (goodIn_r _ [181, 3, 76, 77, 78, 79, 80, 81, 82, 83, 2, 84, 85, 86, 19, 87, 88, 89, 18, 90, 61, 41, 58, 59, 91, 92, 93, 40, 94, 95, 96, 97, 98, 99, 100, 101, 102, 103, 104, 46, 49, 105, 47, 106, 107, 108, 109, 110, 111, 112, 113, 60, 114, 115, 116, 117, 118, 119, 120, 121, 122, 123, 124, 125, 126, 127, 128, 129, 130, 131, 132, 133, 134, 135, 136, 137, 138, 139, 140, 141, 142, 143, 144, 145, 146, 147, 148, 149, 150, 151, 152, 153, 154, 155, 156, 182, 183, 184, 185, 186, 187, 188, 189, 190, 191, 192, 193, 194, 195, 196, 197, 198, 199, 200, 201, 202, 203, 204, 205, 206, 207, 208, 209, 210, 211, 212, 213, 214, 215, 216, 217, 218, 219, 220, 221, 222, 223, 224, 5, 225, 226, 227, 228, 229, 230, 231, 232, 233, 234, 235, 236, 237, 238, 239, 240, 241, 242, 243, 244, 245, 246, 247, 248, 249, 250, 315, 316, 317, 318, 319, 327, 328, 329, 330, 331, 338, 339, 340, 341, 342] (by decide +kernel) (by decide +kernel)) (goodIn_sub (fun _ h => List.mem_append_left _ (List.mem_append_left _ (List.mem_append_right _ h))) (by decide +kernel))) (goodIn_sub (fun _ h => List.mem_append_right _ h) (by decide +kernel))
set_option maxRecDepth 20000 in
theorem gL_law_L_hangs : GoodIn wsL_law (va_wsS RL 87 yL_hangs wsL_hangs) := goodIn_app (goodIn_of _ (by decide +kernel)) ggL_law_L_hangs
set_option maxRecDepth 20000 in
theorem ggL_law_L_cell : GoodIn wsL_law wsL_cell := goodIn_r _ [253, 254, 255] (by decide +kernel) (by decide +kernel)
set_option maxRecDepth 20000 in
theorem gL_law_L_cell : GoodIn wsL_law (va_wsS RL 91 yL_cell wsL_cell) := goodIn_app (goodIn_of _ (by decide +kernel)) ggL_law_L_cell
set_option maxRecDepth 20000 in
theorem ggL_law_L_bound : GoodIn wsL_law wsL_bound := goodIn_ca (goodIn_r _ [258, 80, 3, 259, 260, 261, 2, 262, 85, 86, 263, 23, 19, 229, 150, 151, 264, 265, 266, 22, 267, 171, 172, 268, 269, 99, 270, 271, 272, 273, 274, 65, 66, 67, 275, 51, 52, 18, 53, 54, 55, 56, 57, 58, 59, 60, 61, 315, 316, 317, 318, 319, 327, 328, 329, 330, 331, 332, 333, 334, 335, 336] (by decide +kernel) (by decide +kernel)) (goodIn_sub (fun _ h => List.mem_append_left _ (List.mem_append_left _ (List.mem_append_right _ h))) (by decide +kernel))
set_option maxRecDepth 20000 in
theorem gL_law_L_bound : GoodIn wsL_law (va_wsS RL 95 yL_bound wsL_bound) := goodIn_app (goodIn_of _ (by decide +kernel)) ggL_law_L_bound
set_option maxRecDepth 20000 in
theorem ggL_law_X6_again : GoodIn wsL_law wsX6_again := goodIn_r _ [279, 23, 19, 264, 265, 266, 22, 267, 171, 172, 268, 269, 99, 270, 271, 272, 273, 274, 65, 66, 67, 150, 2, 151, 275, 51, 52, 18, 53, 54, 55, 56, 57, 58, 59, 60, 61, 315, 316, 317, 318, 319, 327, 328, 329, 330, 331, 332, 333, 334, 335, 336] (by decide +kernel) (by decide +kernel)
set_option maxRecDepth 20000 in
theorem gL_law_X6_again : GoodIn wsL_law (wsV RL 97 RX6 yX6_again wsX6_again) := goodIn_app (goodIn_of _ (by decide +kernel)) ggL_law_X6_again
set_option maxRecDepth 20000 in
theorem ggL_law_L_spare : GoodIn wsL_law wsL_spare := goodIn_ca (goodIn_r _ [282, 160, 3, 283, 284, 285, 2, 286, 23, 19, 287, 288, 289, 290, 165, 166, 152, 153, 154, 18, 155, 59, 58, 114, 115, 116, 117, 264, 265, 266, 22, 267, 171, 172, 268, 269, 99, 270, 271, 272, 273, 274, 65, 66, 67, 150, 151, 291, 292, 293, 294, 60, 295, 315, 316, 317, 318, 319, 327, 328, 329, 330, 331, 332, 333, 334, 335, 336] (by decide +kernel) (by decide +kernel)) (goodIn_sub (fun _ h => List.mem_append_left _ (List.mem_append_right _ h)) (by decide +kernel))
set_option maxRecDepth 20000 in
theorem gL_law_L_spare : GoodIn wsL_law (va_wsS RL 100 yL_spare wsL_spare) := goodIn_app (goodIn_of _ (by decide +kernel)) ggL_law_L_spare
set_option maxRecDepth 20000 in
theorem ggL_law_L_strikeTo : GoodIn wsL_law wsL_strikeTo := goodIn_ca (goodIn_r _ [298, 80, 3, 299, 300, 301, 2, 302, 85, 86, 263, 23, 19, 229, 150, 151, 264, 265, 266, 22, 267, 171, 172, 268, 269, 99, 270, 271, 272, 273, 274, 65, 66, 67, 303, 304, 305, 18, 306, 295, 153, 154, 155, 59, 58, 114, 115, 116, 117, 307, 292, 293, 294, 60, 315, 316, 317, 318, 319, 332, 333, 334, 335, 336, 327, 328, 329, 330, 331] (by decide +kernel) (by decide +kernel)) (goodIn_sub (fun _ h => List.mem_append_left _ (List.mem_append_left _ (List.mem_append_right _ h))) (by decide +kernel))
set_option maxRecDepth 20000 in
theorem gL_law_L_strikeTo : GoodIn wsL_law (va_wsS RL 102 yL_strikeTo wsL_strikeTo) := goodIn_app (goodIn_of _ (by decide +kernel)) ggL_law_L_strikeTo
set_option maxRecDepth 20000 in
theorem ggL_law_L_wouldStrike : GoodIn wsL_law wsL_wouldStrike := goodIn_ca (goodIn_r _ [233, 185, 3, 234, 235, 236, 2, 237, 19, 190, 191, 192, 193, 194, 195, 87, 88, 89, 18, 90, 61, 41, 58, 59, 91, 92, 93, 40, 94, 95, 96, 97, 98, 99, 100, 101, 102, 103, 104, 46, 49, 105, 47, 106, 107, 108, 109, 110, 111, 112, 113, 60, 114, 115, 116, 117, 118, 119, 120, 121, 122, 123, 124, 125, 126, 127, 128, 129, 152, 153, 154, 155, 238, 239, 240, 241, 242, 143, 144, 145, 146, 147, 148, 149, 150, 151, 315, 316, 317, 318, 319, 338, 339, 340, 341, 342, 327, 328, 329, 330, 331] (by decide +kernel) (by decide +kernel)) (goodIn_sub (fun _ h => List.mem_append_right _ h) (by decide +kernel))
set_option maxRecDepth 20000 in
theorem gL_law_L_wouldStrike : GoodIn wsL_law (va_wsS RL 79 yL_wouldStrike wsL_wouldStrike) := goodIn_app (goodIn_of _ (by decide +kernel)) ggL_law_L_wouldStrike
set_option maxRecDepth 20000 in
theorem ggL_law_L_strike : GoodIn wsL_law wsL_strike := goodIn_ca (goodIn_r _ [310, 160, 3, 311, 312, 313, 2, 314, 23, 19, 287, 288, 289, 290, 165, 166, 152, 153, 154, 18, 155, 59, 58, 114, 115, 116, 117, 264, 265, 266, 22, 267, 171, 172, 268, 269, 99, 270, 271, 272, 273, 274, 65, 66, 67, 150, 151, 137, 138, 139, 140, 141, 88, 89, 90, 61, 41, 91, 92, 93, 40, 94, 95, 96, 97, 98, 100, 101, 102, 103, 104, 46, 49, 105, 47, 106, 107, 108, 109, 110, 111, 112, 113, 60, 118, 119, 120, 121, 122, 123, 124, 125, 126, 127, 128, 129, 142, 143, 144, 145, 146, 147, 148, 149, 291, 292, 293, 294, 295, 315, 316, 317, 318, 319, 327, 328, 329, 330, 331, 332, 333, 334, 335, 336, 338, 339, 340, 341, 342] (by decide +kernel) (by decide +kernel)) (goodIn_sub (fun _ h => List.mem_append_left _ (List.mem_append_right _ h)) (by decide +kernel))
set_option maxRecDepth 20000 in
theorem gL_law_L_strike : GoodIn wsL_law (va_wsS RL 104 yL_strike wsL_strike) := goodIn_app (goodIn_of _ (by decide +kernel)) ggL_law_L_strike
set_option maxRecDepth 20000 in
theorem ggL_law_L_came : GoodIn wsL_law wsL_came := goodIn_ca (goodIn_r _ [245, 80, 3, 246, 247, 248, 2, 249, 85, 86, 19, 156, 115, 116, 18, 117, 250, 111, 112, 113, 60, 315, 316, 317, 318, 319, 327, 328, 329, 330, 331] (by decide +kernel) (by decide +kernel)) (goodIn_sub (fun _ h => List.mem_append_left _ (List.mem_append_left _ (List.mem_append_right _ h))) (by decide +kernel))
set_option maxRecDepth 20000 in
theorem gL_law_L_came : GoodIn wsL_law (va_wsS RL 81 yL_came wsL_came) := goodIn_app (goodIn_of _ (by decide +kernel)) ggL_law_L_came
set_option maxRecDepth 20000 in
theorem ggL_law_L_restLeft : GoodIn wsL_law wsL_restLeft := goodIn_ca (goodIn_ca (goodIn_r _ [224, 185, 80, 3, 5, 225, 226, 227, 2, 228, 85, 86, 19, 190, 191, 192, 193, 194, 195, 87, 88, 89, 18, 90, 61, 41, 58, 59, 91, 92, 93, 40, 94, 95, 96, 97, 98, 99, 100, 101, 102, 103, 104, 46, 49, 105, 47, 106, 107, 108, 109, 110, 111, 112, 113, 60, 114, 115, 116, 117, 118, 119, 120, 121, 122, 123, 124, 125, 126, 127, 128, 129, 229, 150, 151, 230, 147, 148, 149, 315, 316, 317, 318, 319, 338, 339, 340, 341, 342, 327, 328, 329, 330, 331] (by decide +kernel) (by decide +kernel)) (goodIn_sub (fun _ h => List.mem_append_left _ (List.mem_append_left _ (List.mem_append_right _ h))) (by decide +kernel))) (goodIn_sub (fun _ h => List.mem_append_right _ h) (by decide +kernel))
set_option maxRecDepth 20000 in
theorem gL_law_L_restLeft : GoodIn wsL_law (va_wsS RL 76 yL_restLeft wsL_restLeft) := goodIn_app (goodIn_of _ (by decide +kernel)) ggL_law_L_restLeft
set_option maxRecDepth 20000 in
theorem ggL_law_L_left : GoodIn wsL_law wsL_left := goodIn_ca (goodIn_r _ [199, 185, 3, 200, 201, 202, 2, 203, 19, 190, 191, 192, 193, 194, 195, 87, 88, 89, 18, 90, 61, 41, 58, 59, 91, 92, 93, 40, 94, 95, 96, 97, 98, 99, 100, 101, 102, 103, 104, 46, 49, 105, 47, 106, 107, 108, 109, 110, 111, 112, 113, 60, 114, 115, 116, 117, 118, 119, 120, 121, 122, 123, 124, 125, 126, 127, 128, 129, 204, 143, 144, 145, 146, 147, 148, 149, 150, 151, 315, 316, 317, 318, 319, 338, 339, 340, 341, 342, 327, 328, 329, 330, 331] (by decide +kernel) (by decide +kernel)) (goodIn_sub (fun _ h => List.mem_append_right _ h) (by decide +kernel))
set_option maxRecDepth 20000 in
theorem gL_law_L_left : GoodIn wsL_law (va_wsS RL 68 yL_left wsL_left) := goodIn_app (goodIn_of _ (by decide +kernel)) ggL_law_L_left
theorem dL_law_0 : decode cL_law 0 = .ok (.new 10, 3) := by decide +kernel
theorem dL_law_3 : decode cL_law 3 = .ok (.dup, 1) := by decide +kernel
theorem dL_law_4 : decode cL_law 4 = .ok (.invokespecial 83, 3) := by decide +kernel
theorem dL_law_7 : decode cL_law 7 = .ok (.astore_n 1, 1) := by decide +kernel
theorem dL_law_8 : decode cL_law 8 = .ok (.aload_n 1, 1) := by decide +kernel
theorem dL_law_9 : decode cL_law 9 = .ok (.iconst 0, 1) := by decide +kernel
theorem dL_law_10 : decode cL_law 10 = .ok (.invokestatic 61, 3) := by decide +kernel
theorem dL_law_13 : decode cL_law 13 = .ok (.bipush 100, 2) := by decide +kernel
theorem dL_law_15 : decode cL_law 15 = .ok (.if_icmp .ne 42, 3) := by decide +kernel
theorem dL_law_18 : decode cL_law 18 = .ok (.aload_n 1, 1) := by decide +kernel
theorem dL_law_19 : decode cL_law 19 = .ok (.iconst 4, 1) := by decide +kernel
theorem dL_law_20 : decode cL_law 20 = .ok (.invokestatic 61, 3) := by decide +kernel
theorem dL_law_23 : decode cL_law 23 = .ok (.bipush 100, 2) := by decide +kernel
theorem dL_law_25 : decode cL_law 25 = .ok (.if_icmp .ne 32, 3) := by decide +kernel
theorem dL_law_28 : decode cL_law 28 = .ok (.aload_n 1, 1) := by decide +kernel
theorem dL_law_29 : decode cL_law 29 = .ok (.iconst 5, 1) := by decide +kernel
theorem dL_law_30 : decode cL_law 30 = .ok (.invokestatic 61, 3) := by decide +kernel
theorem dL_law_33 : decode cL_law 33 = .ok (.iconst 2, 1) := by decide +kernel
theorem dL_law_34 : decode cL_law 34 = .ok (.if_icmp .ne 23, 3) := by decide +kernel
theorem dL_law_37 : decode cL_law 37 = .ok (.aload_n 1, 1) := by decide +kernel
theorem dL_law_38 : decode cL_law 38 = .ok (.invokestatic 84, 3) := by decide +kernel
theorem dL_law_41 : decode cL_law 41 = .ok (.ldc 17, 2) := by decide +kernel
theorem dL_law_43 : decode cL_law 43 = .ok (.if_icmp .ne 14, 3) := by decide +kernel
theorem dL_law_46 : decode cL_law 46 = .ok (.aload_n 1, 1) := by decide +kernel
theorem dL_law_47 : decode cL_law 47 = .ok (.invokestatic 87, 3) := by decide +kernel
theorem dL_law_50 : decode cL_law 50 = .ok (.ifCond .eq 7, 3) := by decide +kernel
theorem dL_law_53 : decode cL_law 53 = .ok (.iconst 1, 1) := by decide +kernel
theorem dL_law_54 : decode cL_law 54 = .ok (.goto 4, 3) := by decide +kernel
theorem dL_law_57 : decode cL_law 57 = .ok (.iconst 0, 1) := by decide +kernel
theorem dL_law_58 : decode cL_law 58 = .ok (.istore_n 2, 1) := by decide +kernel
theorem dL_law_59 : decode cL_law 59 = .ok (.iconst 0, 1) := by decide +kernel
theorem dL_law_60 : decode cL_law 60 = .ok (.istore_n 3, 1) := by decide +kernel
theorem dL_law_61 : decode cL_law 61 = .ok (.iload_n 3, 1) := by decide +kernel
theorem dL_law_62 : decode cL_law 62 = .ok (.bipush 24, 2) := by decide +kernel
theorem dL_law_64 : decode cL_law 64 = .ok (.if_icmp .ge 478, 3) := by decide +kernel
theorem dL_law_67 : decode cL_law 67 = .ok (.iload_n 2, 1) := by decide +kernel
theorem dL_law_68 : decode cL_law 68 = .ok (.ifCond .eq 474, 3) := by decide +kernel
theorem dL_law_71 : decode cL_law 71 = .ok (.aload_n 0, 1) := by decide +kernel
theorem dL_law_72 : decode cL_law 72 = .ok (.iload_n 3, 1) := by decide +kernel
theorem dL_law_73 : decode cL_law 73 = .ok (.invokestatic 91, 3) := by decide +kernel
theorem dL_law_76 : decode cL_law 76 = .ok (.istore 4, 2) := by decide +kernel
theorem dL_law_78 : decode cL_law 78 = .ok (.iload 4, 2) := by decide +kernel
theorem dL_law_80 : decode cL_law 80 = .ok (.bipush 8, 2) := by decide +kernel
theorem dL_law_82 : decode cL_law 82 = .ok (.idiv, 1) := by decide +kernel
theorem dL_law_83 : decode cL_law 83 = .ok (.istore 5, 2) := by decide +kernel
theorem dL_law_85 : decode cL_law 85 = .ok (.aload_n 1, 1) := by decide +kernel
theorem dL_law_86 : decode cL_law 86 = .ok (.iconst 0, 1) := by decide +kernel
theorem dL_law_87 : decode cL_law 87 = .ok (.invokestatic 61, 3) := by decide +kernel
theorem dL_law_90 : decode cL_law 90 = .ok (.istore 6, 2) := by decide +kernel
theorem dL_law_92 : decode cL_law 92 = .ok (.aload_n 1, 1) := by decide +kernel
theorem dL_law_93 : decode cL_law 93 = .ok (.iconst 5, 1) := by decide +kernel
theorem dL_law_94 : decode cL_law 94 = .ok (.invokestatic 61, 3) := by decide +kernel
theorem dL_law_97 : decode cL_law 97 = .ok (.istore 7, 2) := by decide +kernel
theorem dL_law_99 : decode cL_law 99 = .ok (.aload_n 1, 1) := by decide +kernel
theorem dL_law_100 : decode cL_law 100 = .ok (.iconst 4, 1) := by decide +kernel
theorem dL_law_101 : decode cL_law 101 = .ok (.invokestatic 61, 3) := by decide +kernel
theorem dL_law_104 : decode cL_law 104 = .ok (.istore 8, 2) := by decide +kernel
theorem dL_law_106 : decode cL_law 106 = .ok (.iload 4, 2) := by decide +kernel
theorem dL_law_108 : decode cL_law 108 = .ok (.bipush 8, 2) := by decide +kernel
theorem dL_law_110 : decode cL_law 110 = .ok (.irem, 1) := by decide +kernel
theorem dL_law_111 : decode cL_law 111 = .ok (.tableswitch 316 0 4 #[33, 120, 178, 178, 216], 33) := by decide +kernel
theorem dL_law_144 : decode cL_law 144 = .ok (.iload 5, 2) := by decide +kernel
theorem dL_law_146 : decode cL_law 146 = .ok (.iconst 3, 1) := by decide +kernel
theorem dL_law_147 : decode cL_law 147 = .ok (.irem, 1) := by decide +kernel
theorem dL_law_148 : decode cL_law 148 = .ok (.ifCond .ne 16, 3) := by decide +kernel
theorem dL_law_151 : decode cL_law 151 = .ok (.iconst 1, 1) := by decide +kernel
theorem dL_law_152 : decode cL_law 152 = .ok (.iload 5, 2) := by decide +kernel
theorem dL_law_154 : decode cL_law 154 = .ok (.iconst 4, 1) := by decide +kernel
theorem dL_law_155 : decode cL_law 155 = .ok (.idiv, 1) := by decide +kernel
theorem dL_law_156 : decode cL_law 156 = .ok (.sipush 3000, 3) := by decide +kernel
theorem dL_law_159 : decode cL_law 159 = .ok (.irem, 1) := by decide +kernel
theorem dL_law_160 : decode cL_law 160 = .ok (.iadd, 1) := by decide +kernel
theorem dL_law_161 : decode cL_law 161 = .ok (.goto 12, 3) := by decide +kernel
theorem dL_law_164 : decode cL_law 164 = .ok (.iconst 1, 1) := by decide +kernel
theorem dL_law_165 : decode cL_law 165 = .ok (.iload 5, 2) := by decide +kernel
theorem dL_law_167 : decode cL_law 167 = .ok (.iconst 4, 1) := by decide +kernel
theorem dL_law_168 : decode cL_law 168 = .ok (.idiv, 1) := by decide +kernel
theorem dL_law_169 : decode cL_law 169 = .ok (.bipush 40, 2) := by decide +kernel
theorem dL_law_171 : decode cL_law 171 = .ok (.irem, 1) := by decide +kernel
theorem dL_law_172 : decode cL_law 172 = .ok (.iadd, 1) := by decide +kernel
theorem dL_law_173 : decode cL_law 173 = .ok (.istore 9, 2) := by decide +kernel
theorem dL_law_175 : decode cL_law 175 = .ok (.aload_n 1, 1) := by decide +kernel
theorem dL_law_176 : decode cL_law 176 = .ok (.iload 9, 2) := by decide +kernel
theorem dL_law_178 : decode cL_law 178 = .ok (.invokestatic 95, 3) := by decide +kernel
theorem dL_law_181 : decode cL_law 181 = .ok (.iload 6, 2) := by decide +kernel
theorem dL_law_183 : decode cL_law 183 = .ok (.if_icmp .ne 43, 3) := by decide +kernel
theorem dL_law_186 : decode cL_law 186 = .ok (.aload_n 1, 1) := by decide +kernel
theorem dL_law_187 : decode cL_law 187 = .ok (.iconst 0, 1) := by decide +kernel
theorem dL_law_188 : decode cL_law 188 = .ok (.invokestatic 61, 3) := by decide +kernel
theorem dL_law_191 : decode cL_law 191 = .ok (.iload 9, 2) := by decide +kernel
theorem dL_law_193 : decode cL_law 193 = .ok (.if_icmp .ne 33, 3) := by decide +kernel
theorem dL_law_196 : decode cL_law 196 = .ok (.aload_n 1, 1) := by decide +kernel
theorem dL_law_197 : decode cL_law 197 = .ok (.iconst 4, 1) := by decide +kernel
theorem dL_law_198 : decode cL_law 198 = .ok (.invokestatic 61, 3) := by decide +kernel
theorem dL_law_201 : decode cL_law 201 = .ok (.iload 9, 2) := by decide +kernel
theorem dL_law_203 : decode cL_law 203 = .ok (.if_icmp .ne 23, 3) := by decide +kernel
theorem dL_law_206 : decode cL_law 206 = .ok (.aload_n 1, 1) := by decide +kernel
theorem dL_law_207 : decode cL_law 207 = .ok (.iconst 2, 1) := by decide +kernel
theorem dL_law_208 : decode cL_law 208 = .ok (.invokestatic 61, 3) := by decide +kernel
theorem dL_law_211 : decode cL_law 211 = .ok (.ifCond .ne 15, 3) := by decide +kernel
theorem dL_law_214 : decode cL_law 214 = .ok (.aload_n 1, 1) := by decide +kernel
theorem dL_law_215 : decode cL_law 215 = .ok (.iconst 3, 1) := by decide +kernel
theorem dL_law_216 : decode cL_law 216 = .ok (.invokestatic 61, 3) := by decide +kernel
theorem dL_law_219 : decode cL_law 219 = .ok (.ifCond .ne 7, 3) := by decide +kernel
theorem dL_law_222 : decode cL_law 222 = .ok (.iconst 1, 1) := by decide +kernel
theorem dL_law_223 : decode cL_law 223 = .ok (.goto 4, 3) := by decide +kernel
theorem dL_law_226 : decode cL_law 226 = .ok (.iconst 0, 1) := by decide +kernel
theorem dL_law_227 : decode cL_law 227 = .ok (.istore_n 2, 1) := by decide +kernel
theorem dL_law_228 : decode cL_law 228 = .ok (.goto 291, 3) := by decide +kernel
theorem dL_law_231 : decode cL_law 231 = .ok (.aload_n 1, 1) := by decide +kernel
theorem dL_law_232 : decode cL_law 232 = .ok (.iconst 2, 1) := by decide +kernel
theorem dL_law_233 : decode cL_law 233 = .ok (.invokestatic 61, 3) := by decide +kernel
theorem dL_law_236 : decode cL_law 236 = .ok (.aload_n 1, 1) := by decide +kernel
theorem dL_law_237 : decode cL_law 237 = .ok (.iconst 3, 1) := by decide +kernel
theorem dL_law_238 : decode cL_law 238 = .ok (.invokestatic 61, 3) := by decide +kernel
theorem dL_law_241 : decode cL_law 241 = .ok (.iadd, 1) := by decide +kernel
theorem dL_law_242 : decode cL_law 242 = .ok (.istore 10, 2) := by decide +kernel
theorem dL_law_244 : decode cL_law 244 = .ok (.iload 5, 2) := by decide +kernel
theorem dL_law_246 : decode cL_law 246 = .ok (.iconst 4, 1) := by decide +kernel
theorem dL_law_247 : decode cL_law 247 = .ok (.irem, 1) := by decide +kernel
theorem dL_law_248 : decode cL_law 248 = .ok (.ifCond .gt 32, 3) := by decide +kernel
theorem dL_law_251 : decode cL_law 251 = .ok (.aload_n 1, 1) := by decide +kernel
theorem dL_law_252 : decode cL_law 252 = .ok (.invokevirtual 97, 3) := by decide +kernel
theorem dL_law_255 : decode cL_law 255 = .ok (.iload 10, 2) := by decide +kernel
theorem dL_law_257 : decode cL_law 257 = .ok (.if_icmp .ne 27, 3) := by decide +kernel
theorem dL_law_260 : decode cL_law 260 = .ok (.aload_n 1, 1) := by decide +kernel
theorem dL_law_261 : decode cL_law 261 = .ok (.iconst 4, 1) := by decide +kernel
theorem dL_law_262 : decode cL_law 262 = .ok (.invokestatic 61, 3) := by decide +kernel
theorem dL_law_265 : decode cL_law 265 = .ok (.iload 6, 2) := by decide +kernel
theorem dL_law_267 : decode cL_law 267 = .ok (.if_icmp .ne 17, 3) := by decide +kernel
theorem dL_law_270 : decode cL_law 270 = .ok (.aload_n 1, 1) := by decide +kernel
theorem dL_law_271 : decode cL_law 271 = .ok (.bipush 6, 2) := by decide +kernel
theorem dL_law_273 : decode cL_law 273 = .ok (.invokestatic 61, 3) := by decide +kernel
theorem dL_law_276 : decode cL_law 276 = .ok (.iconst (-1), 1) := by decide +kernel
theorem dL_law_277 : decode cL_law 277 = .ok (.if_icmp .ne 7, 3) := by decide +kernel
theorem dL_law_280 : decode cL_law 280 = .ok (.iconst 1, 1) := by decide +kernel
theorem dL_law_281 : decode cL_law 281 = .ok (.goto 4, 3) := by decide +kernel
theorem dL_law_284 : decode cL_law 284 = .ok (.iconst 0, 1) := by decide +kernel
theorem dL_law_285 : decode cL_law 285 = .ok (.istore_n 2, 1) := by decide +kernel
theorem dL_law_286 : decode cL_law 286 = .ok (.goto 233, 3) := by decide +kernel
theorem dL_law_289 : decode cL_law 289 = .ok (.aload_n 1, 1) := by decide +kernel
theorem dL_law_290 : decode cL_law 290 = .ok (.invokestatic 100, 3) := by decide +kernel
theorem dL_law_293 : decode cL_law 293 = .ok (.iload 7, 2) := by decide +kernel
theorem dL_law_295 : decode cL_law 295 = .ok (.ifCond .ge 8, 3) := by decide +kernel
theorem dL_law_298 : decode cL_law 298 = .ok (.ldc 17, 2) := by decide +kernel
theorem dL_law_300 : decode cL_law 300 = .ok (.goto 5, 3) := by decide +kernel
theorem dL_law_303 : decode cL_law 303 = .ok (.iload 7, 2) := by decide +kernel
theorem dL_law_305 : decode cL_law 305 = .ok (.if_icmp .ne 17, 3) := by decide +kernel
theorem dL_law_308 : decode cL_law 308 = .ok (.aload_n 1, 1) := by decide +kernel
theorem dL_law_309 : decode cL_law 309 = .ok (.iconst 4, 1) := by decide +kernel
theorem dL_law_310 : decode cL_law 310 = .ok (.invokestatic 61, 3) := by decide +kernel
theorem dL_law_313 : decode cL_law 313 = .ok (.iload 8, 2) := by decide +kernel
theorem dL_law_315 : decode cL_law 315 = .ok (.if_icmp .ne 7, 3) := by decide +kernel
theorem dL_law_318 : decode cL_law 318 = .ok (.iconst 1, 1) := by decide +kernel
theorem dL_law_319 : decode cL_law 319 = .ok (.goto 4, 3) := by decide +kernel
theorem dL_law_322 : decode cL_law 322 = .ok (.iconst 0, 1) := by decide +kernel
theorem dL_law_323 : decode cL_law 323 = .ok (.istore_n 2, 1) := by decide +kernel
theorem dL_law_324 : decode cL_law 324 = .ok (.goto 195, 3) := by decide +kernel
theorem dL_law_327 : decode cL_law 327 = .ok (.iload 5, 2) := by decide +kernel
theorem dL_law_329 : decode cL_law 329 = .ok (.bipush 60, 2) := by decide +kernel
theorem dL_law_331 : decode cL_law 331 = .ok (.irem, 1) := by decide +kernel
theorem dL_law_332 : decode cL_law 332 = .ok (.istore 11, 2) := by decide +kernel
theorem dL_law_334 : decode cL_law 334 = .ok (.aload_n 1, 1) := by decide +kernel
theorem dL_law_335 : decode cL_law 335 = .ok (.iconst 2, 1) := by decide +kernel
theorem dL_law_336 : decode cL_law 336 = .ok (.invokestatic 61, 3) := by decide +kernel
theorem dL_law_339 : decode cL_law 339 = .ok (.istore 12, 2) := by decide +kernel
theorem dL_law_341 : decode cL_law 341 = .ok (.aload_n 1, 1) := by decide +kernel
theorem dL_law_342 : decode cL_law 342 = .ok (.iload 11, 2) := by decide +kernel
theorem dL_law_344 : decode cL_law 344 = .ok (.invokestatic 102, 3) := by decide +kernel
theorem dL_law_347 : decode cL_law 347 = .ok (.istore 13, 2) := by decide +kernel
theorem dL_law_349 : decode cL_law 349 = .ok (.iload 13, 2) := by decide +kernel
theorem dL_law_351 : decode cL_law 351 = .ok (.ifCond .lt 71, 3) := by decide +kernel
theorem dL_law_354 : decode cL_law 354 = .ok (.aload_n 1, 1) := by decide +kernel
theorem dL_law_355 : decode cL_law 355 = .ok (.iconst 2, 1) := by decide +kernel
theorem dL_law_356 : decode cL_law 356 = .ok (.invokestatic 61, 3) := by decide +kernel
theorem dL_law_359 : decode cL_law 359 = .ok (.iload 12, 2) := by decide +kernel
theorem dL_law_361 : decode cL_law 361 = .ok (.iload 13, 2) := by decide +kernel
theorem dL_law_363 : decode cL_law 363 = .ok (.iadd, 1) := by decide +kernel
theorem dL_law_364 : decode cL_law 364 = .ok (.if_icmp .ne 58, 3) := by decide +kernel
theorem dL_law_367 : decode cL_law 367 = .ok (.iload 7, 2) := by decide +kernel
theorem dL_law_369 : decode cL_law 369 = .ok (.ifCond .lt 15, 3) := by decide +kernel
theorem dL_law_372 : decode cL_law 372 = .ok (.iload 7, 2) := by decide +kernel
theorem dL_law_374 : decode cL_law 374 = .ok (.iload 11, 2) := by decide +kernel
theorem dL_law_376 : decode cL_law 376 = .ok (.if_icmp .gt 8, 3) := by decide +kernel
theorem dL_law_379 : decode cL_law 379 = .ok (.iload 13, 2) := by decide +kernel
theorem dL_law_381 : decode cL_law 381 = .ok (.ifCond .le 41, 3) := by decide +kernel
theorem dL_law_384 : decode cL_law 384 = .ok (.aload_n 1, 1) := by decide +kernel
theorem dL_law_385 : decode cL_law 385 = .ok (.iconst 5, 1) := by decide +kernel
theorem dL_law_386 : decode cL_law 386 = .ok (.invokestatic 61, 3) := by decide +kernel
theorem dL_law_389 : decode cL_law 389 = .ok (.ifCond .lt 13, 3) := by decide +kernel
theorem dL_law_392 : decode cL_law 392 = .ok (.aload_n 1, 1) := by decide +kernel
theorem dL_law_393 : decode cL_law 393 = .ok (.iconst 5, 1) := by decide +kernel
theorem dL_law_394 : decode cL_law 394 = .ok (.invokestatic 61, 3) := by decide +kernel
theorem dL_law_397 : decode cL_law 397 = .ok (.iload 11, 2) := by decide +kernel
theorem dL_law_399 : decode cL_law 399 = .ok (.if_icmp .le 23, 3) := by decide +kernel
theorem dL_law_402 : decode cL_law 402 = .ok (.iload 13, 2) := by decide +kernel
theorem dL_law_404 : decode cL_law 404 = .ok (.ifCond .eq 14, 3) := by decide +kernel
theorem dL_law_407 : decode cL_law 407 = .ok (.aload_n 1, 1) := by decide +kernel
theorem dL_law_408 : decode cL_law 408 = .ok (.bipush 6, 2) := by decide +kernel
theorem dL_law_410 : decode cL_law 410 = .ok (.invokestatic 61, 3) := by decide +kernel
theorem dL_law_413 : decode cL_law 413 = .ok (.iload 11, 2) := by decide +kernel
theorem dL_law_415 : decode cL_law 415 = .ok (.if_icmp .gt 7, 3) := by decide +kernel
theorem dL_law_418 : decode cL_law 418 = .ok (.iconst 1, 1) := by decide +kernel
theorem dL_law_419 : decode cL_law 419 = .ok (.goto 4, 3) := by decide +kernel
theorem dL_law_422 : decode cL_law 422 = .ok (.iconst 0, 1) := by decide +kernel
theorem dL_law_423 : decode cL_law 423 = .ok (.istore_n 2, 1) := by decide +kernel
theorem dL_law_424 : decode cL_law 424 = .ok (.goto 95, 3) := by decide +kernel
theorem dL_law_427 : decode cL_law 427 = .ok (.aload_n 1, 1) := by decide +kernel
theorem dL_law_428 : decode cL_law 428 = .ok (.iconst 0, 1) := by decide +kernel
theorem dL_law_429 : decode cL_law 429 = .ok (.invokestatic 79, 3) := by decide +kernel
theorem dL_law_432 : decode cL_law 432 = .ok (.istore 14, 2) := by decide +kernel
theorem dL_law_434 : decode cL_law 434 = .ok (.aload_n 1, 1) := by decide +kernel
theorem dL_law_435 : decode cL_law 435 = .ok (.invokestatic 104, 3) := by decide +kernel
theorem dL_law_438 : decode cL_law 438 = .ok (.iload 7, 2) := by decide +kernel
theorem dL_law_440 : decode cL_law 440 = .ok (.ifCond .ge 8, 3) := by decide +kernel
theorem dL_law_443 : decode cL_law 443 = .ok (.ldc 17, 2) := by decide +kernel
theorem dL_law_445 : decode cL_law 445 = .ok (.goto 5, 3) := by decide +kernel
theorem dL_law_448 : decode cL_law 448 = .ok (.iload 14, 2) := by decide +kernel
theorem dL_law_450 : decode cL_law 450 = .ok (.if_icmp .ne 67, 3) := by decide +kernel
theorem dL_law_453 : decode cL_law 453 = .ok (.aload_n 1, 1) := by decide +kernel
theorem dL_law_454 : decode cL_law 454 = .ok (.iconst 4, 1) := by decide +kernel
theorem dL_law_455 : decode cL_law 455 = .ok (.invokestatic 61, 3) := by decide +kernel
theorem dL_law_458 : decode cL_law 458 = .ok (.iload 8, 2) := by decide +kernel
theorem dL_law_460 : decode cL_law 460 = .ok (.iload 14, 2) := by decide +kernel
theorem dL_law_462 : decode cL_law 462 = .ok (.isub, 1) := by decide +kernel
theorem dL_law_463 : decode cL_law 463 = .ok (.if_icmp .ne 54, 3) := by decide +kernel
theorem dL_law_466 : decode cL_law 466 = .ok (.iload 7, 2) := by decide +kernel
theorem dL_law_468 : decode cL_law 468 = .ok (.ifCond .gt 8, 3) := by decide +kernel
theorem dL_law_471 : decode cL_law 471 = .ok (.iload 14, 2) := by decide +kernel
theorem dL_law_473 : decode cL_law 473 = .ok (.ifCond .ne 44, 3) := by decide +kernel
theorem dL_law_476 : decode cL_law 476 = .ok (.iload 7, 2) := by decide +kernel
theorem dL_law_478 : decode cL_law 478 = .ok (.ifCond .lt 35, 3) := by decide +kernel
theorem dL_law_481 : decode cL_law 481 = .ok (.iload 14, 2) := by decide +kernel
theorem dL_law_483 : decode cL_law 483 = .ok (.iconst 1, 1) := by decide +kernel
theorem dL_law_484 : decode cL_law 484 = .ok (.if_icmp .lt 33, 3) := by decide +kernel
theorem dL_law_487 : decode cL_law 487 = .ok (.aload_n 1, 1) := by decide +kernel
theorem dL_law_488 : decode cL_law 488 = .ok (.invokestatic 84, 3) := by decide +kernel
theorem dL_law_491 : decode cL_law 491 = .ok (.ifCond .lt 26, 3) := by decide +kernel
theorem dL_law_494 : decode cL_law 494 = .ok (.aload_n 1, 1) := by decide +kernel
theorem dL_law_495 : decode cL_law 495 = .ok (.iconst 4, 1) := by decide +kernel
theorem dL_law_496 : decode cL_law 496 = .ok (.invokestatic 61, 3) := by decide +kernel
theorem dL_law_499 : decode cL_law 499 = .ok (.iload 8, 2) := by decide +kernel
theorem dL_law_501 : decode cL_law 501 = .ok (.if_icmp .ne 16, 3) := by decide +kernel
theorem dL_law_504 : decode cL_law 504 = .ok (.aload_n 1, 1) := by decide +kernel
theorem dL_law_505 : decode cL_law 505 = .ok (.invokestatic 104, 3) := by decide +kernel
theorem dL_law_508 : decode cL_law 508 = .ok (.iload 14, 2) := by decide +kernel
theorem dL_law_510 : decode cL_law 510 = .ok (.if_icmp .ne 7, 3) := by decide +kernel
theorem dL_law_513 : decode cL_law 513 = .ok (.iconst 1, 1) := by decide +kernel
theorem dL_law_514 : decode cL_law 514 = .ok (.goto 4, 3) := by decide +kernel
theorem dL_law_517 : decode cL_law 517 = .ok (.iconst 0, 1) := by decide +kernel
theorem dL_law_518 : decode cL_law 518 = .ok (.istore_n 2, 1) := by decide +kernel
theorem dL_law_519 : decode cL_law 519 = .ok (.iload_n 2, 1) := by decide +kernel
theorem dL_law_520 : decode cL_law 520 = .ok (.ifCond .eq 14, 3) := by decide +kernel
theorem dL_law_523 : decode cL_law 523 = .ok (.aload_n 1, 1) := by decide +kernel
theorem dL_law_524 : decode cL_law 524 = .ok (.invokestatic 87, 3) := by decide +kernel
theorem dL_law_527 : decode cL_law 527 = .ok (.ifCond .eq 7, 3) := by decide +kernel
theorem dL_law_530 : decode cL_law 530 = .ok (.iconst 1, 1) := by decide +kernel
theorem dL_law_531 : decode cL_law 531 = .ok (.goto 4, 3) := by decide +kernel
theorem dL_law_534 : decode cL_law 534 = .ok (.iconst 0, 1) := by decide +kernel
theorem dL_law_535 : decode cL_law 535 = .ok (.istore_n 2, 1) := by decide +kernel
theorem dL_law_536 : decode cL_law 536 = .ok (.iinc 3 1, 3) := by decide +kernel
theorem dL_law_539 : decode cL_law 539 = .ok (.goto (-478), 3) := by decide +kernel
theorem dL_law_542 : decode cL_law 542 = .ok (.iload_n 2, 1) := by decide +kernel
theorem dL_law_543 : decode cL_law 543 = .ok (.ifCond .eq 84, 3) := by decide +kernel
theorem dL_law_546 : decode cL_law 546 = .ok (.aload_n 1, 1) := by decide +kernel
theorem dL_law_547 : decode cL_law 547 = .ok (.iconst 0, 1) := by decide +kernel
theorem dL_law_548 : decode cL_law 548 = .ok (.invokestatic 95, 3) := by decide +kernel
theorem dL_law_551 : decode cL_law 551 = .ok (.ldc 17, 2) := by decide +kernel
theorem dL_law_553 : decode cL_law 553 = .ok (.if_icmp .ne 74, 3) := by decide +kernel
theorem dL_law_556 : decode cL_law 556 = .ok (.aload_n 1, 1) := by decide +kernel
theorem dL_law_557 : decode cL_law 557 = .ok (.ldc 106, 2) := by decide +kernel
theorem dL_law_559 : decode cL_law 559 = .ok (.invokestatic 95, 3) := by decide +kernel
theorem dL_law_562 : decode cL_law 562 = .ok (.ldc 17, 2) := by decide +kernel
theorem dL_law_564 : decode cL_law 564 = .ok (.if_icmp .ne 63, 3) := by decide +kernel
theorem dL_law_567 : decode cL_law 567 = .ok (.aload_n 1, 1) := by decide +kernel
theorem dL_law_568 : decode cL_law 568 = .ok (.iconst (-1), 1) := by decide +kernel
theorem dL_law_569 : decode cL_law 569 = .ok (.invokestatic 102, 3) := by decide +kernel
theorem dL_law_572 : decode cL_law 572 = .ok (.ldc 17, 2) := by decide +kernel
theorem dL_law_574 : decode cL_law 574 = .ok (.if_icmp .ne 53, 3) := by decide +kernel
theorem dL_law_577 : decode cL_law 577 = .ok (.aload_n 1, 1) := by decide +kernel
theorem dL_law_578 : decode cL_law 578 = .ok (.iconst (-1), 1) := by decide +kernel
theorem dL_law_579 : decode cL_law 579 = .ok (.invokestatic 81, 3) := by decide +kernel
theorem dL_law_582 : decode cL_law 582 = .ok (.ldc 17, 2) := by decide +kernel
theorem dL_law_584 : decode cL_law 584 = .ok (.if_icmp .ne 43, 3) := by decide +kernel
theorem dL_law_587 : decode cL_law 587 = .ok (.aload_n 1, 1) := by decide +kernel
theorem dL_law_588 : decode cL_law 588 = .ok (.iconst 0, 1) := by decide +kernel
theorem dL_law_589 : decode cL_law 589 = .ok (.iconst 4, 1) := by decide +kernel
theorem dL_law_590 : decode cL_law 590 = .ok (.invokestatic 76, 3) := by decide +kernel
theorem dL_law_593 : decode cL_law 593 = .ok (.ldc 48, 2) := by decide +kernel
theorem dL_law_595 : decode cL_law 595 = .ok (.if_icmp .ne 32, 3) := by decide +kernel
theorem dL_law_598 : decode cL_law 598 = .ok (.aload_n 1, 1) := by decide +kernel
theorem dL_law_599 : decode cL_law 599 = .ok (.aload_n 1, 1) := by decide +kernel
theorem dL_law_600 : decode cL_law 600 = .ok (.iconst 1, 1) := by decide +kernel
theorem dL_law_601 : decode cL_law 601 = .ok (.invokestatic 61, 3) := by decide +kernel
theorem dL_law_604 : decode cL_law 604 = .ok (.iconst 4, 1) := by decide +kernel
theorem dL_law_605 : decode cL_law 605 = .ok (.invokestatic 76, 3) := by decide +kernel
theorem dL_law_608 : decode cL_law 608 = .ok (.ldc 17, 2) := by decide +kernel
theorem dL_law_610 : decode cL_law 610 = .ok (.if_icmp .ne 17, 3) := by decide +kernel
theorem dL_law_613 : decode cL_law 613 = .ok (.aload_n 1, 1) := by decide +kernel
theorem dL_law_614 : decode cL_law 614 = .ok (.iconst (-1), 1) := by decide +kernel
theorem dL_law_615 : decode cL_law 615 = .ok (.invokestatic 68, 3) := by decide +kernel
theorem dL_law_618 : decode cL_law 618 = .ok (.ldc 17, 2) := by decide +kernel
theorem dL_law_620 : decode cL_law 620 = .ok (.if_icmp .ne 7, 3) := by decide +kernel
theorem dL_law_623 : decode cL_law 623 = .ok (.iconst 1, 1) := by decide +kernel
theorem dL_law_624 : decode cL_law 624 = .ok (.goto 4, 3) := by decide +kernel
theorem dL_law_627 : decode cL_law 627 = .ok (.iconst 0, 1) := by decide +kernel
theorem dL_law_628 : decode cL_law 628 = .ok (.ireturn, 1) := by decide +kernel
end
section
/-! counts, sums, least factors, the small primes -/
def ct (P : Nat → Bool) : Nat → Nat
  | 0 => 0
  | n + 1 => ct P n + (if P (n + 1) then 1 else 0)
def sm (f : Nat → Nat) : Nat → Nat
  | 0 => 0
  | n + 1 => sm f n + f (n + 1)
theorem ct_s (P : Nat → Bool) (n : Nat) : ct P (n + 1) = ct P n + (if P (n + 1) then 1 else 0) := rfl
theorem sm_s (f : Nat → Nat) (n : Nat) : sm f (n + 1) = sm f n + f (n + 1) := rfl
theorem ct_sm (P : Nat → Bool) : ∀ n, ct P n = sm (fun x => if P x then 1 else 0) n
  | 0 => rfl
  | n + 1 => by rw [ct_s, sm_s, ct_sm P n]
theorem sm_cong {f g : Nat → Nat} : ∀ {n : Nat}, (∀ x, 1 ≤ x → x ≤ n → f x = g x) → sm f n = sm g n
  | 0, _ => rfl
  | n + 1, h => by rw [sm_s, sm_s, sm_cong (fun x h1 h2 => h x h1 (by omega)), h (n + 1) (by omega) (by omega)]
theorem ct_cong {P Q : Nat → Bool} {n : Nat} (h : ∀ x, 1 ≤ x → x ≤ n → P x = Q x) : ct P n = ct Q n := by
  rw [ct_sm, ct_sm]
  exact sm_cong fun x h1 h2 => by rw [h x h1 h2]
theorem ct_le (P : Nat → Bool) : ∀ n, ct P n ≤ n
  | 0 => Nat.le_refl _
  | n + 1 => by
    have h := ct_le P n
    rw [ct_s]
    by_cases q : P (n + 1) = true
    · rw [if_pos q]; omega
    · rw [if_neg q]; omega
theorem sm_mono (f : Nat → Nat) {a : Nat} : ∀ {b : Nat}, a ≤ b → sm f a ≤ sm f b
  | 0, h => by rw [show a = 0 by omega]; exact Nat.le_refl _
  | b + 1, h => by
    by_cases e : a = b + 1
    · rw [e]; exact Nat.le_refl _
    · have := sm_mono f (a := a) (b := b) (by omega)
      rw [sm_s]; omega
theorem ct_mono (P : Nat → Bool) {a b : Nat} (h : a ≤ b) : ct P a ≤ ct P b := by
  rw [ct_sm, ct_sm]; exact sm_mono _ h
theorem sm_add (f g : Nat → Nat) : ∀ n, sm (fun x => f x + g x) n = sm f n + sm g n
  | 0 => rfl
  | n + 1 => by rw [sm_s, sm_s, sm_s, sm_add f g n]; omega
theorem sm_c (c : Nat) (f : Nat → Nat) : ∀ n, sm (fun x => c * f x) n = c * sm f n
  | 0 => rfl
  | n + 1 => by rw [sm_s, sm_s, sm_c c f n, Nat.mul_add]
theorem sm_0 {f : Nat → Nat} {n : Nat} (h : ∀ x, 1 ≤ x → x ≤ n → f x = 0) : sm f n = 0 := by
  rw [sm_cong (g := fun _ => 0) h]
  induction n with
  | zero => rfl
  | succ n ih => rw [sm_s, ih (fun x h1 h2 => h x h1 (by omega))]
theorem sm_le {f g : Nat → Nat} : ∀ {n : Nat}, (∀ x, 1 ≤ x → x ≤ n → f x ≤ g x) → sm f n ≤ sm g n
  | 0, _ => Nat.le_refl _
  | n + 1, h => by
    have h1 := sm_le (f := f) (g := g) (n := n) (fun x a b => h x a (by omega))
    have h2 := h (n + 1) (by omega) (by omega)
    rw [sm_s, sm_s]; omega
/-- the multiples of p up to v -/
theorem sm_mult (f : Nat → Nat) {p : Nat} (hp : 0 < p) : ∀ v, sm (fun x => if x % p = 0 then f x else 0) v = sm (fun y => f (p * y)) (v / p)
  | 0 => by rw [Nat.zero_div]; rfl
  | v + 1 => by
    rw [sm_s, sm_mult f hp v, Nat.succ_div]
    by_cases h : (v + 1) % p = 0
    · have hd := Nat.dvd_of_mod_eq_zero h
      rw [if_pos h, if_pos hd, sm_s]
      have e : p * (v / p + 1) = v + 1 := by
        have h2 : (v + 1) / p = v / p + 1 := by rw [Nat.succ_div, if_pos hd]
        rw [← h2]; exact Nat.mul_div_cancel' hd
      rw [e]
    · rw [if_neg h, if_neg (fun z => h (Nat.mod_eq_zero_of_dvd z))]
      rfl
def spN : List Nat := [2, 3, 5, 7, 11, 13, 17, 19, 23, 29, 31, 37, 41, 43, 47, 53, 59, 61, 67, 71, 73, 79, 83, 89, 97, 101, 103, 107, 109, 113, 127, 131, 137, 139, 149, 151, 157, 163, 167, 173, 179, 181, 191, 193, 197, 199, 211, 223, 227, 229, 233, 239, 241, 251, 257, 263, 269, 271, 277, 281, 283, 293, 307, 311, 313]
def sp (k : Nat) : Nat := spN.getD k 0
theorem all_lt {N : Nat} {P : Nat → Bool} (h : (List.range N).all P = true) {i : Nat} (hi : i < N) : P i = true := List.all_eq_true.mp h i (List.mem_range.mpr hi)
theorem sp_ge2 {k : Nat} (h : k < 65) : 2 ≤ sp k := of_decide_eq_true (all_lt (N := 65) (P := fun k => decide (2 ≤ sp k)) (by decide +kernel) h)
theorem sp_le {k : Nat} (h : k < 65) : sp k ≤ 313 := of_decide_eq_true (all_lt (N := 65) (P := fun k => decide (sp k ≤ 313)) (by decide +kernel) h)
theorem sp_cop {i j : Nat} (hi : i < 65) (hj : j < i) : Nat.gcd (sp j) (sp i) = 1 := of_decide_eq_true (all_lt (N := i) (P := fun j => decide (Nat.gcd (sp j) (sp i) = 1)) (all_lt (N := 65) (P := fun i => (List.range i).all (fun j => decide (Nat.gcd (sp j) (sp i) = 1))) (by decide +kernel) hi) hj)
theorem sp_lt1 {k : Nat} (h : k + 1 < 65) : sp k < sp (k + 1) := of_decide_eq_true (all_lt (N := 64) (P := fun k => decide (sp k < sp (k + 1))) (by decide +kernel) (by omega))
theorem sp_lt {i j : Nat} (h : i < j) (hj : j < 65) : sp i < sp j := by
  induction j with
  | zero => omega
  | succ j ih =>
    have h1 := sp_lt1 hj
    by_cases e : i = j
    · rw [e]; exact h1
    · have := ih (by omega) (by omega); omega
theorem sp_inj {i j : Nat} (hi : i < 65) (hj : j < 65) (h : sp i = sp j) : i = j := by
  rcases Nat.lt_or_ge i j with q | q
  · have := sp_lt q hj; omega
  · rcases Nat.lt_or_ge j i with q2 | q2
    · have := sp_lt q2 hi; omega
    · omega
/-- the least factor -/
def lfF (x : Nat) : Nat → Nat → Nat
  | 0, _ => x
  | f + 1, d => if x % d = 0 then d else lfF x f (d + 1)
def lf (x : Nat) : Nat := lfF x x 2
theorem lfF_spec (x : Nat) : ∀ (f d : Nat), 2 ≤ d → d ≤ x → x < d + f → (∀ e, 2 ≤ e → e < d → ¬ e ∣ x) → 2 ≤ lfF x f d ∧ lfF x f d ∣ x ∧ ∀ e, 2 ≤ e → e ∣ x → lfF x f d ≤ e
  | 0, d, _, h2, h3, _ => by omega
  | f + 1, d, h1, h2, h3, h4 => by
    unfold lfF
    by_cases h : x % d = 0
    · rw [if_pos h]
      exact ⟨h1, Nat.dvd_of_mod_eq_zero h, fun e e1 e2 => Nat.le_of_not_lt fun z => h4 e e1 z e2⟩
    · rw [if_neg h]
      have hne : d ≠ x := fun z => h (by rw [z]; exact Nat.mod_self x)
      exact lfF_spec x f (d + 1) (by omega) (by omega) (by omega) fun e e1 e2 e3 => by
        by_cases q : e = d
        · exact h (by rw [← q]; exact Nat.mod_eq_zero_of_dvd e3)
        · exact h4 e e1 (by omega) e3
theorem lf_spec {x : Nat} (h : 2 ≤ x) : 2 ≤ lf x ∧ lf x ∣ x ∧ ∀ e, 2 ≤ e → e ∣ x → lf x ≤ e := lfF_spec x x 2 (Nat.le_refl 2) h (by omega) fun e e1 e2 => by omega
theorem lf_of {x d : Nat} (h : 2 ≤ x) (h1 : 2 ≤ d) (h2 : d ∣ x) (h3 : ∀ e, 2 ≤ e → e ∣ x → d ≤ e) : lf x = d := by
  obtain ⟨a, b, c⟩ := lf_spec h
  have := c d h1 h2
  have := h3 _ a b
  omega
theorem lf_le {x : Nat} (h : 2 ≤ x) : lf x ≤ x := (lf_spec h).2.2 x h (Nat.dvd_refl x)
def isP (x : Nat) : Bool := decide (2 ≤ x) && lf x == x
theorem isP_iff {x : Nat} : isP x = true ↔ 2 ≤ x ∧ lf x = x := by simp [isP]
theorem isP_2 {x : Nat} (h : isP x = true) : 2 ≤ x := (isP_iff.mp h).1
theorem isP_dvd {p e : Nat} (h : isP p = true) (h1 : 2 ≤ e) (h2 : e ∣ p) : e = p := by
  obtain ⟨a, b⟩ := isP_iff.mp h
  have h3 := (lf_spec a).2.2 e h1 h2
  have h4 := Nat.le_of_dvd (by omega) h2
  omega
theorem isP_of {p : Nat} (h : 2 ≤ p) (h2 : ∀ e, 2 ≤ e → e ∣ p → e = p) : isP p = true := isP_iff.mpr ⟨h, lf_of h h (Nat.dvd_refl p) fun e a b => by rw [h2 e a b]; exact Nat.le_refl _⟩
theorem lf_isP {x : Nat} (h : 2 ≤ x) : isP (lf x) = true := by
  obtain ⟨a, b, c⟩ := lf_spec h
  refine isP_of a fun e e1 e2 => ?_
  have h1 := c e e1 (Nat.dvd_trans e2 b)
  have h2 := Nat.le_of_dvd (by omega) e2
  omega
/-- a number that is no prime has its least factor not above its root -/
theorem lf_root {x : Nat} (h : 2 ≤ x) (hn : lf x ≠ x) : lf x * lf x ≤ x := by
  obtain ⟨a, ⟨k, hk⟩, c⟩ := lf_spec h
  have hk2 : 2 ≤ k := by
    rcases k with _ | _ | k
    · rw [Nat.mul_zero] at hk; omega
    · rw [Nat.zero_add, Nat.mul_one] at hk; exact absurd hk.symm hn
    · omega
  have := c k hk2 ⟨lf x, by rw [Nat.mul_comm]; exact hk⟩
  calc lf x * lf x ≤ lf x * k := Nat.mul_le_mul_left _ this
    _ = x := hk.symm
theorem isP_cop {p q : Nat} (hp : isP p = true) (h : ¬ p ∣ q) : Nat.gcd p q = 1 := by
  have h1 := Nat.gcd_dvd_left p q
  have h2 := Nat.gcd_dvd_right p q
  have h0 : 0 < Nat.gcd p q := Nat.gcd_pos_of_pos_left q (by have := isP_2 hp; omega)
  rcases Nat.lt_or_ge (Nat.gcd p q) 2 with z | z
  · omega
  · rw [isP_dvd hp z h1] at h2; exact absurd h2 h
theorem isP_mul {p a b : Nat} (hp : isP p = true) (h : p ∣ a * b) : p ∣ a ∨ p ∣ b := by
  by_cases q : p ∣ a
  · exact Or.inl q
  · exact Or.inr (Nat.Coprime.dvd_of_dvd_mul_left (isP_cop hp q) h)
theorem sp_isP {k : Nat} (h : k < 65) : isP (sp k) = true := all_lt (N := 65) (P := fun k => isP (sp k)) (by decide +kernel) h
theorem sp_all {q : Nat} (h : q < 317) (hq : isP q = true) : ∃ i, i < 65 ∧ sp i = q := by
  have h1 := all_lt (N := 317) (P := fun q => !isP q || spN.any (fun z => z == q)) (by decide +kernel) h
  rw [hq] at h1
  have h2 : q ∈ spN := by simpa using h1
  obtain ⟨i, hi, h3⟩ := List.getElem_of_mem h2
  exact ⟨i, hi, by rw [sp, List.getD_eq_getElem?_getD, List.getElem?_eq_getElem hi]; exact h3⟩
/-- trial division -/
theorem trial {x i : Nat} (h : 2 ≤ x) (hx : x < 100489) (hi : i ≤ 65) (hd : ∀ j, j < i → ¬ sp j ∣ x) (he : i = 65 ∨ x < sp i * sp i) : lf x = x := by
  by_cases hn : lf x = x
  · exact hn
  · have hr := lf_root h hn
    have hlt : lf x < 317 := by
      rcases Nat.lt_or_ge (lf x) 317 with z | z
      · exact z
      · have := Nat.mul_le_mul z z; omega
    obtain ⟨j, hj, e⟩ := sp_all hlt (lf_isP h)
    have hdv := (lf_spec h).2.1
    rw [← e] at hdv hr
    rcases Nat.lt_or_ge j i with z | z
    · exact absurd hdv (hd j z)
    · rcases he with he | he
      · omega
      · have : sp i ≤ sp j := by
          rcases Nat.lt_or_ge i j with y | y
          · exact Nat.le_of_lt (sp_lt y hj)
          · rw [show i = j by omega]; exact Nat.le_refl _
        have := Nat.mul_le_mul this this
        omega
theorem trial2 {x i : Nat} (h : 2 ≤ x) (hi : i < 65) (hd : ∀ j, j < i → ¬ sp j ∣ x) (he : sp i ∣ x) : lf x = sp i := by
  have h1 := (lf_spec h).2.2 (sp i) (sp_ge2 hi) he
  have h2 := sp_le hi
  obtain ⟨j, hj, e⟩ := sp_all (q := lf x) (by omega) (lf_isP h)
  have hdv := (lf_spec h).2.1
  rw [← e] at hdv h1 ⊢
  rcases Nat.lt_or_ge j i with z | z
  · exact absurd hdv (hd j z)
  · rcases Nat.lt_or_ge i j with y | y
    · have := sp_lt y hj; omega
    · rw [show i = j by omega]
/-- what is left: x is not divided by any of the first t primes whose bit in m is set -/
def al (m : Nat) : Nat → Nat → Bool
  | 0, _ => true
  | t + 1, x => al m t x && !(m.testBit t && x % sp t == 0)
def cR (m t r v : Nat) : Nat := ct (fun x => al m t x && x % 4 == r) v
def cA (m t v : Nat) : Nat := ct (fun x => al m t x) v
def sR (m t v : Nat) : Nat := sm (fun x => if al m t x then x else 0) v
theorem al_mul {m : Nat} : ∀ {t p : Nat}, t ≤ 65 → (∀ j, j < t → Nat.gcd (sp j) p = 1) → ∀ y, al m t (p * y) = al m t y
  | 0, _, _, _, _ => rfl
  | t + 1, p, ht, hc, y => by
    unfold al
    rw [al_mul (by omega) (fun j hj => hc j (by omega)) y]
    have e : ((p * y) % sp t == 0) = (y % sp t == 0) := by
      rw [Bool.eq_iff_iff, beq_iff_eq, beq_iff_eq]
      constructor
      · intro h
        exact Nat.mod_eq_zero_of_dvd (Nat.Coprime.dvd_of_dvd_mul_left (hc t (by omega)) (Nat.dvd_of_mod_eq_zero h))
      · intro h
        exact Nat.mod_eq_zero_of_dvd (Nat.dvd_mul_left_of_dvd (Nat.dvd_of_mod_eq_zero h) p)
    rw [e]
/-- what a prime that strikes takes away, and what is left -/
theorem sm_strike {m t : Nat} (ht : t < 65) (hb : m.testBit t = true) (f : Nat → Nat) (v : Nat) : sm (fun x => if al m (t + 1) x then f x else 0) v + sm (fun y => if al m t y then f (sp t * y) else 0) (v / sp t) = sm (fun x => if al m t x then f x else 0) v := by
  have hp : 0 < sp t := by have := sp_ge2 ht; omega
  have e1 : sm (fun y => if al m t y then f (sp t * y) else 0) (v / sp t) = sm (fun x => if x % sp t = 0 then (if al m t x then f x else 0) else 0) v := by
    rw [sm_mult _ hp]
    exact sm_cong fun y _ _ => by
      rw [al_mul (by omega) (fun j hj => sp_cop ht hj)]
  rw [e1, ← sm_add]
  refine sm_cong fun x _ _ => ?_
  rw [show al m (t + 1) x = (al m t x && !(m.testBit t && x % sp t == 0)) from rfl, hb]
  by_cases h1 : al m t x = true <;> by_cases h2 : x % sp t = 0 <;> simp [h1, h2]
theorem al_spare {m t : Nat} (hb : m.testBit t = false) (x : Nat) : al m (t + 1) x = al m t x := by
  rw [show al m (t + 1) x = (al m t x && !(m.testBit t && x % sp t == 0)) from rfl, hb]
  simp
theorem al_cong {m m2 : Nat} : ∀ {t : Nat}, (∀ j, j < t → m.testBit j = m2.testBit j) → ∀ x, al m t x = al m2 t x
  | 0, _, _ => rfl
  | t + 1, h, x => by
    unfold al
    rw [al_cong (fun j hj => h j (by omega)) x, h t (by omega)]
theorem al_iff {m x : Nat} : ∀ {t : Nat}, al m t x = true ↔ ∀ j, j < t → m.testBit j = true → ¬ sp j ∣ x
  | 0 => ⟨fun _ j hj => absurd hj (Nat.not_lt_zero j), fun _ => rfl⟩
  | t + 1 => by
    rw [show al m (t + 1) x = (al m t x && !(m.testBit t && x % sp t == 0)) from rfl, Bool.and_eq_true, al_iff (t := t)]
    constructor
    · intro ⟨h1, h2⟩ j hj hb hd
      by_cases e : j = t
      · rw [e] at hb hd
        rw [hb, Nat.mod_eq_zero_of_dvd hd] at h2
        simp at h2
      · exact h1 j (by omega) hb hd
    · intro h
      refine ⟨fun j hj hb => h j (by omega) hb, ?_⟩
      by_cases hb : m.testBit t = true
      · have := h t (by omega) hb
        have h3 : ¬ x % sp t = 0 := fun z => this (Nat.dvd_of_mod_eq_zero z)
        simp [h3]
      · simp [hb]
theorem sR_step {m t : Nat} (ht : t < 65) (hb : m.testBit t = true) (v : Nat) : sR m (t + 1) v + sp t * sR m t (v / sp t) = sR m t v := by
  rw [sR, sR, sR, ← sm_strike ht hb (fun x => x) v, ← sm_c]
  congr 1
  exact sm_cong fun y _ _ => by by_cases h : al m t y = true <;> simp [h]
theorem cR_step {m t : Nat} (ht : t < 65) (hb : m.testBit t = true) (r v : Nat) : cR m (t + 1) r v + ct (fun y => al m t y && (sp t * y) % 4 == r) (v / sp t) = cR m t r v := by
  have h := sm_strike ht hb (fun x => if x % 4 = r then 1 else 0) v
  rw [cR, cR, ct_sm, ct_sm, ct_sm]
  have g : ∀ (u : Nat → Bool) (w : Nat → Nat), (fun x => if (u x && w x == r) = true then 1 else 0) = (fun x => if u x = true then (if w x = r then 1 else 0) else 0) := fun u w => by
    funext x
    by_cases h1 : u x = true <;> by_cases h2 : w x = r <;> simp [h1, h2]
  rw [g, g, g]
  exact h
/-- the multiples, by their own rests -/
theorem cR_restsG (m t r w : Nat) (g : Nat → Nat) : ct (fun y => al m t y && g (y % 4) == r) w = (if g 0 = r then cR m t 0 w else 0) + (if g 1 = r then cR m t 1 w else 0) + (if g 2 = r then cR m t 2 w else 0) + (if g 3 = r then cR m t 3 w else 0) := by
  simp only [cR]
  induction w with
  | zero => simp only [ct]; (repeat' split) <;> rfl
  | succ w ih =>
    simp only [ct_s]
    rw [ih]
    have hr : (w + 1) % 4 = 0 ∨ (w + 1) % 4 = 1 ∨ (w + 1) % 4 = 2 ∨ (w + 1) % 4 = 3 := by omega
    by_cases h0 : al m t (w + 1) = true
    · by_cases q0 : g 0 = r <;> by_cases q1 : g 1 = r <;> by_cases q2 : g 2 = r <;> by_cases q3 : g 3 = r <;> rcases hr with h | h | h | h <;> simp [h0, h, q0, q1, q2, q3] <;> omega
    · simp [h0]
theorem cR_rests (m t p r w : Nat) : ct (fun y => al m t y && (p * y) % 4 == r) w = (if p * 0 % 4 = r then cR m t 0 w else 0) + (if p * 1 % 4 = r then cR m t 1 w else 0) + (if p * 2 % 4 = r then cR m t 2 w else 0) + (if p * 3 % 4 = r then cR m t 3 w else 0) := by
  rw [← cR_restsG m t r w (fun i => p * i % 4)]
  exact ct_cong fun y _ _ => by
    have : (p * y) % 4 = (p * (y % 4)) % 4 := by rw [Nat.mul_mod, Nat.mul_mod p (y % 4), Nat.mod_mod]
    rw [this]
theorem cR_sum (m t v : Nat) : cR m t 0 v + cR m t 1 v + cR m t 2 v + cR m t 3 v = cA m t v := by
  simp only [cR, cA]
  induction v with
  | zero => rfl
  | succ w ih =>
    simp only [ct_s]
    have hr : (w + 1) % 4 = 0 ∨ (w + 1) % 4 = 1 ∨ (w + 1) % 4 = 2 ∨ (w + 1) % 4 = 3 := by omega
    by_cases h0 : al m t (w + 1) = true
    · rcases hr with h | h | h | h <;> simp [h0, h] <;> omega
    · simp [h0]; omega
theorem cA_step {m t : Nat} (ht : t < 65) (hb : m.testBit t = true) (v : Nat) : cA m (t + 1) v + cA m t (v / sp t) = cA m t v := by
  have h := sm_strike ht hb (fun _ => 1) v
  rw [cA, cA, cA, ct_sm, ct_sm, ct_sm]
  exact h
theorem tb_mod (m k : Nat) : m.testBit k = decide (m / 2 ^ k % 2 = 1) := Nat.testBit_eq_decide_div_mod_eq
end
section
/-! quotients of n -/
/-- the least d with n < d (d + 1) -/
def sqF (n : Nat) : Nat → Nat → Nat
  | 0, d => d
  | f + 1, d => if n < d * (d + 1) then d else sqF n f (d + 1)
def sq (n : Nat) : Nat := sqF n (n + 1) 1
theorem sqF_spec (n : Nat) : ∀ (f d : Nat), 1 ≤ d → n < d + f → d * (d - 1) ≤ n → 1 ≤ sqF n f d ∧ n < sqF n f d * (sqF n f d + 1) ∧ sqF n f d * (sqF n f d - 1) ≤ n
  | 0, d, h1, h2, h3 => by
    refine ⟨h1, ?_, h3⟩
    show n < d * (d + 1)
    have : d * 1 ≤ d * (d + 1) := Nat.mul_le_mul_left d (by omega)
    omega
  | f + 1, d, h1, h2, h3 => by
    unfold sqF
    by_cases h : n < d * (d + 1)
    · rw [if_pos h]; exact ⟨h1, h, h3⟩
    · rw [if_neg h]
      refine sqF_spec n f (d + 1) (by omega) (by omega) ?_
      rw [Nat.add_sub_cancel, Nat.mul_comm]; omega
theorem sq_spec (n : Nat) : 1 ≤ sq n ∧ n < sq n * (sq n + 1) ∧ sq n * (sq n - 1) ≤ n := sqF_spec n (n + 1) 1 (Nat.le_refl 1) (by omega) (by omega)
def SZ (n : Nat) : Nat := sq n - 1 + n / sq n
def qv (n q : Nat) : Nat := if q + 1 < sq n then n / (q + 1) else SZ n - q
theorem sq_v0 (n : Nat) : n / sq n ≤ sq n := by
  obtain ⟨h1, h2, h3⟩ := sq_spec n
  have := (Nat.div_lt_iff_lt_mul (x := n) (y := sq n + 1) (k := sq n) (by omega)).mpr (by rw [Nat.mul_comm]; exact h2)
  omega
theorem sq_pos {n : Nat} (hn : 1 ≤ n) : 1 ≤ n / sq n := by
  obtain ⟨h1, h2, h3⟩ := sq_spec n
  refine Nat.div_pos ?_ (by omega)
  rcases Nat.lt_or_ge (sq n) 2 with z | z
  · omega
  · have : sq n * 1 ≤ sq n * (sq n - 1) := Nat.mul_le_mul_left _ (by omega)
    omega
theorem SZ_pos {n : Nat} (hn : 1 ≤ n) : 1 ≤ SZ n := by have := sq_pos hn; unfold SZ; omega
theorem sq_316 {n : Nat} (hn : n ≤ 99999) : sq n ≤ 316 := by
  obtain ⟨h1, h2, h3⟩ := sq_spec n
  rcases Nat.lt_or_ge (sq n) 317 with z | z
  · omega
  · have := Nat.mul_le_mul z (show 316 ≤ sq n - 1 by omega)
    omega
theorem SZ_631 {n : Nat} (hn : n ≤ 99999) : SZ n ≤ 631 := by
  have h1 := sq_316 hn
  have h2 := sq_v0 n
  obtain ⟨h3, -, -⟩ := sq_spec n
  unfold SZ; omega
theorem SZ_le {n : Nat} (hn : 1 ≤ n) : SZ n ≤ n := by
  obtain ⟨h1, h2, h3⟩ := sq_spec n
  unfold SZ
  rcases Nat.lt_or_ge (sq n) 2 with z | z
  · have : sq n = 1 := by omega
    rw [this, Nat.div_one]; omega
  · have h4 := Nat.div_mul_le_self n (sq n)
    have h5 := sq_pos hn
    -- (a-1)(b-1) >= 0 : a*b >= a+b-1
    obtain ⟨a, ha⟩ : ∃ a, sq n = a + 1 := ⟨sq n - 1, by omega⟩
    obtain ⟨b, hb⟩ : ∃ b, n / sq n = b + 1 := ⟨n / sq n - 1, by omega⟩
    rw [ha] at h4 hb ⊢
    rw [hb] at h4 ⊢
    have : (b + 1) * (a + 1) = b * a + b + a + 1 := by rw [Nat.add_mul, Nat.mul_add]; omega
    omega
/-- first part of the row: the divisor is the place and one more -/
theorem qv_lo {n q : Nat} (h : q + 1 < sq n) : qv n q = n / (q + 1) := if_pos h
theorem qv_hi {n q : Nat} (h : sq n ≤ q + 1) : qv n q = SZ n - q := if_neg (by omega)
theorem qv_mid (n : Nat) (hn : 1 ≤ n) : qv n (sq n - 1) = n / sq n := by
  obtain ⟨h1, -, -⟩ := sq_spec n
  rw [qv_hi (by omega)]; unfold SZ; generalize n / sq n = z; omega
/-- for a small d, its quotient's last divisor is d itself -/
theorem div_small {n d : Nat} (h1 : 1 ≤ d) (h : d * (d + 1) ≤ n) : d < n / d ∧ n / (n / d) = d := by
  have a : d + 1 ≤ n / d := (Nat.le_div_iff_mul_le (by omega)).mpr (by rw [Nat.mul_comm]; exact h)
  refine ⟨by omega, ?_⟩
  have h2 := Nat.div_mul_le_self n d
  have h3 := Nat.lt_mul_div_succ n (show 0 < d by omega)
  refine Nat.div_eq_of_lt_le ?_ ?_
  · rw [Nat.mul_comm]; rw [Nat.mul_comm] at h2; rwa [Nat.mul_comm] 
  · have e1 : d * (n / d + 1) = d * (n / d) + d := by rw [Nat.mul_add, Nat.mul_one]
    have e2 : (d + 1) * (n / d) = d * (n / d) + n / d := by rw [Nat.add_mul, Nat.one_mul]
    omega
/-- every number not above its own quotient is a quotient -/
theorem div_big {n u : Nat} (h1 : 1 ≤ u) (h : u * u ≤ n) : u ≤ n / u ∧ n / (n / u) = u := by
  have a : u ≤ n / u := (Nat.le_div_iff_mul_le (by omega)).mpr h
  refine ⟨a, ?_⟩
  have h2 := Nat.div_mul_le_self n u
  have h3 := Nat.lt_mul_div_succ n (show 0 < u by omega)
  refine Nat.div_eq_of_lt_le ?_ ?_
  · rwa [Nat.mul_comm]
  · have e1 : u * (n / u + 1) = u * (n / u) + u := by rw [Nat.mul_add, Nat.mul_one]
    have e2 : (u + 1) * (n / u) = u * (n / u) + n / u := by rw [Nat.add_mul, Nat.one_mul]
    omega
theorem qv_pos {n q : Nat} (hn : 1 ≤ n) (h : q < SZ n) : 1 ≤ qv n q ∧ qv n q ≤ n := by
  obtain ⟨h1, h2, h3⟩ := sq_spec n
  by_cases e : q + 1 < sq n
  · rw [qv_lo e]
    refine ⟨Nat.div_pos ?_ (by omega), Nat.div_le_self _ _⟩
    have : sq n * 1 ≤ sq n * (sq n - 1) := Nat.mul_le_mul_left _ (by omega)
    omega
  · rw [qv_hi (by omega)]
    have h4 := SZ_le hn
    omega
theorem lo_le {n q : Nat} (e : q + 1 < sq n) : (q + 1) * (q + 1 + 1) ≤ n := by
  obtain ⟨h1, h2, h3⟩ := sq_spec n
  have := Nat.mul_le_mul (show q + 1 + 1 ≤ sq n by omega) (show q + 1 ≤ sq n - 1 by omega)
  rw [Nat.mul_comm]; omega
theorem hi_le {n q : Nat} (e : sq n ≤ q + 1) : (SZ n - q) * (SZ n - q) ≤ n := by
  obtain ⟨h1, h2, h3⟩ := sq_spec n
  have h4 := sq_v0 n
  have h5 := Nat.div_mul_le_self n (sq n)
  have h6 : SZ n - q ≤ n / sq n := by unfold SZ; generalize n / sq n = z; omega
  have := Nat.mul_le_mul h6 (Nat.le_trans h6 h4)
  omega
/-- which divisor a loop over the divisors stands at, ahead of the place q: the first one of that quotient -/
def dvr (n q : Nat) : Nat := if q + 1 ≤ sq n then q + 1 else n / (SZ n - q + 1) + 1
theorem dvr_0 (n : Nat) : dvr n 0 = 1 := by
  obtain ⟨h1, -, -⟩ := sq_spec n
  unfold dvr; rw [if_pos (by omega)]
theorem dvr_pos (n q : Nat) : 1 ≤ dvr n q := by
  unfold dvr
  split
  · omega
  · exact Nat.le_add_left 1 _
theorem dvr_v {n q : Nat} (hn : 1 ≤ n) (h : q < SZ n) : n / dvr n q = qv n q := by
  obtain ⟨h1, h2, h3⟩ := sq_spec n
  by_cases e : q + 1 ≤ sq n
  · unfold dvr; rw [if_pos e]
    by_cases e2 : q + 1 < sq n
    · rw [qv_lo e2]
    · rw [show q + 1 = sq n by omega, show q = sq n - 1 by omega, qv_mid n hn]
  · unfold dvr; rw [if_neg e, qv_hi (by omega)]
    obtain ⟨v, hv⟩ : ∃ v, SZ n - q = v := ⟨_, rfl⟩
    rw [hv]
    have hv1 : 1 ≤ v := by omega
    have hle := hi_le (n := n) (q := q - 1) (by omega)
    rw [show SZ n - (q - 1) = v + 1 by omega] at hle
    obtain ⟨a, b⟩ := div_big (by omega) hle
    -- e := n/(v+1) + 1; n / e = v
    have c1 := Nat.div_mul_le_self n (v + 1)
    have c2 := Nat.lt_mul_div_succ n (show 0 < v + 1 by omega)
    obtain ⟨w, hw⟩ : ∃ w, n / (v + 1) = w := ⟨_, rfl⟩
    rw [hw] at a c1 c2 ⊢
    refine Nat.div_eq_of_lt_le ?_ ?_
    · have e1 : (w + 1) * v = w * v + v := by rw [Nat.add_mul, Nat.one_mul]
      have e2 : w * (v + 1) = w * v + w := by rw [Nat.mul_add, Nat.mul_one]
      have e3 : v * (w + 1) = (w + 1) * v := Nat.mul_comm _ _
      omega
    · exact c2
theorem dvr_s {n q : Nat} (hn : 1 ≤ n) (h : q < SZ n) : n / qv n q + 1 = dvr n (q + 1) := by
  obtain ⟨h1, h2, h3⟩ := sq_spec n
  by_cases e : q + 1 < sq n
  · rw [qv_lo e, (div_small (by omega) (lo_le e)).2]
    unfold dvr; rw [if_pos (by omega)]
  · rw [qv_hi (by omega)]
    unfold dvr; rw [if_neg (by omega), show SZ n - (q + 1) + 1 = SZ n - q by omega]
theorem dvr_end {n : Nat} (hn : 1 ≤ n) : n < dvr n (SZ n) := by
  have h := dvr_s (n := n) (q := SZ n - 1) hn (by have := SZ_pos hn; omega)
  have hp := SZ_pos hn
  rw [show SZ n - 1 + 1 = SZ n by omega] at h
  obtain ⟨h1, h2, h3⟩ := sq_spec n
  have h4 := sq_pos hn
  rw [← h, qv_hi (by unfold SZ; omega), show SZ n - (SZ n - 1) = 1 by omega, Nat.div_one]
  omega
theorem dvr_le {n q : Nat} (hn : 1 ≤ n) (h : q < SZ n) : dvr n q ≤ n := by
  have h1 := (qv_pos hn h).1
  rw [← dvr_v hn h] at h1
  rcases Nat.lt_or_ge n (dvr n q) with z | z
  · rw [Nat.div_eq_of_lt z] at h1; omega
  · exact z
/-- where a quotient stands -/
def plc (n v : Nat) : Option Nat := if 1 ≤ v ∧ v ≤ n ∧ n / (n / v) = v then some (if v ≤ n / v then SZ n - v else n / v - 1) else none
theorem qv_q {n q : Nat} (hn : 1 ≤ n) (h : q < SZ n) : n / (n / qv n q) = qv n q := by
  by_cases e : q + 1 < sq n
  · rw [qv_lo e, (div_small (by omega) (lo_le e)).2]
  · rw [qv_hi (by omega)]
    exact (div_big (by omega) (hi_le (by omega))).2
theorem plc_qv {n q : Nat} (hn : 1 ≤ n) (h : q < SZ n) : plc n (qv n q) = some q := by
  have h1 := qv_pos hn h
  unfold plc
  rw [if_pos ⟨h1.1, h1.2, qv_q hn h⟩]
  congr 1
  by_cases e : q + 1 < sq n
  · obtain ⟨a, b⟩ := div_small (by omega) (lo_le e)
    rw [qv_lo e, b, if_neg (by omega)]; omega
  · have hq := qv_hi (n := n) (q := q) (by omega)
    obtain ⟨a, b⟩ := div_big (u := SZ n - q) (by omega) (hi_le (by omega))
    rw [hq, if_pos a]; omega
theorem plc_some {n v q : Nat} (hn : 1 ≤ n) (h : plc n v = some q) : q < SZ n ∧ qv n q = v := by
  obtain ⟨h1, h2, h3⟩ := sq_spec n
  unfold plc at h
  by_cases c : 1 ≤ v ∧ v ≤ n ∧ n / (n / v) = v
  · rw [if_pos c] at h
    have h := Option.some.inj h
    obtain ⟨c1, c2, c3⟩ := c
    have d1 : 1 ≤ n / v := Nat.div_pos c2 (by omega)
    have m1 := Nat.div_mul_le_self n v
    have m2 := Nat.lt_mul_div_succ n (show 0 < v by omega)
    by_cases e : v ≤ n / v
    · rw [if_pos e] at h
      have vv : v * v ≤ n := Nat.le_trans (Nat.mul_le_mul_left v e) (by rw [Nat.mul_comm]; exact m1)
      have hv : v ≤ n / sq n := by
        -- v <= sq n and (if v < sq n then v * sq n <= n)
        have v0 := sq_v0 n
        rcases Nat.lt_or_ge (n / sq n) v with z | z
        · exfalso
          rcases Nat.lt_or_ge v (sq n) with y | y
          · have z1 := (Nat.div_lt_iff_lt_mul (show 0 < sq n by omega)).mp z
            have := Nat.mul_le_mul_right (sq n) (show v ≤ sq n - 1 by omega)
            rw [Nat.mul_comm (sq n - 1)] at this
            omega
          · have z1 := (Nat.div_lt_iff_lt_mul (show 0 < sq n by omega)).mp z
            have := Nat.mul_le_mul_left v y
            omega
        · exact z
      refine ⟨by rw [← h]; unfold SZ; omega, ?_⟩
      rw [← h, qv_hi (by unfold SZ; omega)]; unfold SZ; omega
    · rw [if_neg e] at h
      obtain ⟨d, hd⟩ : ∃ d, n / v = d := ⟨_, rfl⟩
      rw [hd] at h d1 c3 m1 m2 e
      have dd : d * (d + 1) ≤ n := Nat.le_trans (Nat.mul_le_mul_left d (show d + 1 ≤ v by omega)) m1
      have ds : d < sq n := by
        rcases Nat.lt_or_ge d (sq n) with z | z
        · exact z
        · have := Nat.mul_le_mul z (show sq n + 1 ≤ d + 1 by omega); omega
      refine ⟨by rw [← h]; have := sq_pos hn; unfold SZ; omega, ?_⟩
      rw [← h, qv_lo (by omega), show d - 1 + 1 = d by omega, c3]
  · rw [if_neg c] at h; cases h
theorem qv_inj {n q q2 : Nat} (hn : 1 ≤ n) (h : q < SZ n) (h2 : q2 < SZ n) (e : qv n q = qv n q2) : q = q2 := by
  have a := plc_qv hn h
  rw [e, plc_qv hn h2] at a
  exact (Option.some.inj a).symm
theorem plc_none {n v : Nat} (hn : 1 ≤ n) (h : plc n v = none) : ∀ q, q < SZ n → qv n q ≠ v := fun q hq e => by
  have := plc_qv hn hq
  rw [e, h] at this
  cases this
/-- n / d is a quotient -/
theorem plc_div {n d : Nat} (h1 : 1 ≤ d) (h2 : d ≤ n) : ∃ q, plc n (n / d) = some q ∧ q < SZ n ∧ qv n q = n / d := by
  have hn : 1 ≤ n := by omega
  obtain ⟨v, hv⟩ : ∃ v, n / d = v := ⟨_, rfl⟩
  have v1 : 1 ≤ v := by rw [← hv]; exact Nat.div_pos h2 (by omega)
  have v2 : v ≤ n := by rw [← hv]; exact Nat.div_le_self _ _
  have k : n / (n / v) = v := by
    have a1 : d ≤ n / v := (Nat.le_div_iff_mul_le (by omega)).mpr (by rw [← hv, Nat.mul_comm]; exact Nat.div_mul_le_self n d)
    have a2 : n / (n / v) ≤ n / d := Nat.div_le_div_left a1 (by omega)
    have a3 : v ≤ n / (n / v) := (Nat.le_div_iff_mul_le (Nat.div_pos v2 (by omega))).mpr (by rw [Nat.mul_comm]; exact Nat.div_mul_le_self n v)
    omega
  have hp : plc n v = some (if v ≤ n / v then SZ n - v else n / v - 1) := if_pos ⟨v1, v2, k⟩
  rw [hv]
  exact ⟨_, hp, plc_some hn hp⟩
/-- a quotient's quotient -/
theorem plc_sub {n q p : Nat} (hn : 1 ≤ n) (hq : q < SZ n) (hp : 1 ≤ p) (h : p ≤ qv n q) : ∃ s, plc n (qv n q / p) = some s ∧ s < SZ n ∧ qv n s = qv n q / p := by
  have e := dvr_v hn hq
  have d1 := dvr_pos n q
  have h3 : qv n q / p = n / (dvr n q * p) := by rw [← e, Nat.div_div_eq_div_mul]
  rw [h3]
  refine plc_div (Nat.mul_pos d1 hp) ?_
  rw [← e] at h
  have := (Nat.le_div_iff_mul_le (show 0 < dvr n q by omega)).mp h
  rw [Nat.mul_comm]; exact this
theorem qv_dec {n q : Nat} (hn : 1 ≤ n) (h : q + 1 < SZ n) : qv n (q + 1) < qv n q := by
  have e1 := dvr_s hn (show q < SZ n by omega)
  have e2 := dvr_v hn h
  rw [← e1] at e2
  have h1 := (qv_pos hn (show q < SZ n by omega)).1
  have h2 := Nat.lt_mul_div_succ n (show 0 < qv n q by omega)
  have h3 := (Nat.div_lt_iff_lt_mul (x := n) (y := qv n q) (k := n / qv n q + 1) (Nat.succ_pos _)).mpr h2
  omega
theorem qv_anti {n q : Nat} (hn : 1 ≤ n) : ∀ {r : Nat}, q < r → r < SZ n → qv n r < qv n q
  | 0, h, _ => by omega
  | r + 1, h, h2 => by
    have h3 := qv_dec hn h2
    by_cases e : q = r
    · rw [e]; exact h3
    · have := qv_anti hn (q := q) (r := r) (by omega) (by omega); omega
theorem qv_0 {n : Nat} (hn : 1 ≤ n) : qv n 0 = n := by
  rw [← dvr_v hn (SZ_pos hn), dvr_0, Nat.div_one]
end
section
/-! words of bits; primes as bits of the odd numbers -/
def bN (P : Nat → Bool) : Nat → Nat
  | 0 => 0
  | n + 1 => bN P n + if P n then 2 ^ n else 0
theorem if_cg {a b : Prop} [Decidable a] [Decidable b] {x y : Nat} (h : a ↔ b) : (if a then x else y) = if b then x else y := by
  by_cases q : b
  · rw [if_pos q, if_pos (h.mpr q)]
  · rw [if_neg q, if_neg (fun z => q (h.mp z))]
theorem bN_lt (P : Nat → Bool) : ∀ n, bN P n < 2 ^ n
  | 0 => Nat.zero_lt_one
  | n + 1 => by
    have h := bN_lt P n
    rw [Nat.pow_succ]
    show bN P n + _ < _
    split <;> omega
theorem bN_tb (P : Nat → Bool) : ∀ n j, (bN P n).testBit j = (decide (j < n) && P j)
  | 0, j => by simp [bN]
  | n + 1, j => by
    show (bN P n + if P n then 2 ^ n else 0).testBit j = _
    have h := bN_lt P n
    by_cases e : P n = true
    · rw [if_pos e, show bN P n + 2 ^ n = 2 ^ n * 1 + bN P n by omega, Nat.testBit_two_pow_mul_add _ h]
      by_cases e2 : j < n
      · rw [if_pos e2, bN_tb P n j, decide_eq_true e2, decide_eq_true (show j < n + 1 by omega)]
      · rw [if_neg e2, show (1 : Nat) = 2 ^ 0 from rfl, Nat.testBit_two_pow]
        by_cases e3 : j = n
        · subst e3; simp [e]
        · rw [decide_eq_false (show ¬ 0 = j - n by omega), decide_eq_false (show ¬ j < n + 1 by omega)]; rfl
    · rw [if_neg e, Nat.add_zero, bN_tb P n j]
      rw [Bool.eq_iff_iff]
      simp
      intro h3
      constructor
      · intro; omega
      · intro h4
        by_cases e2 : j = n
        · subst e2; exact absurd h3 e
        · omega
theorem bN_of {P : Nat → Bool} {n w : Nat} (hw : w < 2 ^ n) (h : ∀ j, j < n → w.testBit j = P j) : w = bN P n := by
  apply Nat.eq_of_testBit_eq
  intro j
  rw [bN_tb]
  by_cases e : j < n
  · rw [h j e]; simp [e]
  · rw [Nat.testBit_lt_two_pow (Nat.lt_of_lt_of_le hw (Nat.pow_le_pow_right (by omega) (by omega)))]
    simp [e]
theorem bN_cong {P Q : Nat → Bool} {n : Nat} (h : ∀ j, j < n → P j = Q j) : bN P n = bN Q n := bN_of (bN_lt P n) fun j hj => by rw [bN_tb, h j hj]; simp [hj]
/-- how many numbers below n -/
def ce (P : Nat → Bool) : Nat → Nat
  | 0 => 0
  | n + 1 => ce P n + if P n then 1 else 0
theorem ce_add (P : Nat → Bool) (a : Nat) : ∀ n, ce P (a + n) = ce P a + ce (fun b => P (a + b)) n
  | 0 => rfl
  | n + 1 => by
    show ce P (a + n) + _ = _ + (ce _ n + _)
    rw [ce_add P a n, Nat.add_assoc]; rfl
theorem ce_cong {P Q : Nat → Bool} : ∀ {n : Nat}, (∀ j, j < n → P j = Q j) → ce P n = ce Q n
  | 0, _ => rfl
  | n + 1, h => by
    show ce P n + _ = ce Q n + _
    rw [ce_cong (fun j hj => h j (by omega)), h n (by omega)]
theorem ce_0 {P : Nat → Bool} : ∀ {n : Nat}, (∀ j, j < n → P j = false) → ce P n = 0
  | 0, _ => rfl
  | n + 1, h => by
    show ce P n + _ = 0
    rw [ce_0 (fun j hj => h j (by omega)), h n (by omega)]; rfl
theorem ce_le (P : Nat → Bool) : ∀ n, ce P n ≤ n
  | 0 => Nat.le_refl _
  | n + 1 => by
    have := ce_le P n
    show ce P n + _ ≤ _
    split <;> omega
theorem ce_mono (P : Nat → Bool) {a b : Nat} (h : a ≤ b) : ce P a ≤ ce P b := by
  obtain ⟨c, rfl⟩ := Nat.le.dest h
  rw [ce_add]; omega
def popc (w : Nat) : Nat := ce (fun b => w.testBit b) 64
theorem popc_bN (P : Nat → Bool) : popc (bN P 64) = ce P 64 := ce_cong fun j hj => by rw [bN_tb]; simp [hj]
theorem popc_le (w : Nat) : popc w ≤ 64 := ce_le _ 64
/-- sums over the bits set -/
def se (g : Nat → Nat) (P : Nat → Bool) : Nat → Nat
  | 0 => 0
  | n + 1 => se g P n + if P n then g n else 0
theorem se_add (g : Nat → Nat) (P : Nat → Bool) (a : Nat) : ∀ n, se g P (a + n) = se g P a + se (fun b => g (a + b)) (fun b => P (a + b)) n
  | 0 => rfl
  | n + 1 => by
    show se g P (a + n) + _ = _ + (se _ _ n + _)
    rw [se_add g P a n, Nat.add_assoc]; rfl
theorem se_cong {g : Nat → Nat} {P Q : Nat → Bool} : ∀ {n : Nat}, (∀ j, j < n → P j = Q j) → se g P n = se g Q n
  | 0, _ => rfl
  | n + 1, h => by
    show se g P n + _ = se g Q n + _
    rw [se_cong (fun j hj => h j (by omega)), h n (by omega)]
/-- the lowest bit set -/
theorem low_ex {w : Nat} (h : popc w ≠ 0) : ∃ b, b < 64 ∧ w.testBit b = true ∧ ∀ j, j < b → w.testBit j = false := by
  have key : ∀ n, ce (fun b => w.testBit b) n ≠ 0 → ∃ b, b < n ∧ w.testBit b = true ∧ ∀ j, j < b → w.testBit j = false := by
    intro n
    induction n with
    | zero => intro h; exact absurd rfl h
    | succ n ih =>
      intro h
      by_cases e : ce (fun b => w.testBit b) n = 0
      · refine ⟨n, by omega, ?_, fun j hj => ?_⟩
        · cases e2 : w.testBit n with
          | true => rfl
          | false =>
            exfalso; apply h
            show ce _ n + _ = 0
            rw [e]; simp [e2]
        · cases e2 : w.testBit j with
          | false => rfl
          | true =>
            exfalso
            have h1 := ce_mono (fun b => w.testBit b) (show j + 1 ≤ n by omega)
            have : ce (fun b => w.testBit b) (j + 1) = ce (fun b => w.testBit b) j + 1 := by
              show ce _ j + _ = _
              simp [e2]
            omega
      · obtain ⟨b, a1, a2, a3⟩ := ih e
        exact ⟨b, by omega, a2, a3⟩
  exact key 64 h
theorem low_form {w b : Nat} (hb : w.testBit b = true) (h : ∀ j, j < b → w.testBit j = false) : ∃ c, w = 2 ^ b * (2 * c + 1) := by
  have h1 : w % 2 ^ b = 0 := by
    apply Nat.eq_of_testBit_eq
    intro j
    rw [Nat.testBit_mod_two_pow, Nat.zero_testBit]
    by_cases e : j < b
    · rw [h j e]; simp
    · simp [e]
  rw [tb_mod] at hb
  have h2 := of_decide_eq_true hb
  refine ⟨w / 2 ^ b / 2, ?_⟩
  have h3 := Nat.div_add_mod w (2 ^ b)
  rw [h1, Nat.add_zero] at h3
  have h4 := Nat.div_add_mod (w / 2 ^ b) 2
  rw [h2] at h4
  rw [h4, h3]
theorem odd_tb (b c j : Nat) : (2 ^ b * (2 * c + 1)).testBit j = (decide (b ≤ j) && (2 * c + 1).testBit (j - b)) := by
  rw [Nat.testBit_two_pow_mul]
/-- taking one away clears the lowest bit -/
theorem low_clear {w b : Nat} (hb : w.testBit b = true) (h : ∀ j, j < b → w.testBit j = false) (j : Nat) : (w &&& (w - 1)).testBit j = (w.testBit j && decide (j ≠ b)) := by
  obtain ⟨c, rfl⟩ := low_form hb h
  have hp : 0 < 2 ^ b := Nat.two_pow_pos b
  have e : 2 ^ b * (2 * c + 1) - 1 = 2 ^ b * (2 * c) + (2 ^ b - 1) := by
    rw [Nat.mul_add, Nat.mul_one]; omega
  rw [Nat.testBit_and, e, Nat.testBit_two_pow_mul_add _ (by omega), odd_tb]
  by_cases h1 : j < b
  · rw [if_pos h1]; simp [show ¬ b ≤ j by omega]
  · rw [if_neg h1]
    by_cases h2 : j = b
    · subst h2; simp
    · obtain ⟨d, hd⟩ : ∃ d, j - b = d + 1 := ⟨j - b - 1, by omega⟩
      rw [hd]
      have e1 : (2 * c).testBit (d + 1) = c.testBit d := by
        rw [Nat.testBit_succ]; congr 1; omega
      have e2 : (2 * c + 1).testBit (d + 1) = c.testBit d := by
        rw [Nat.testBit_succ]; congr 1; omega
      rw [e1, e2]
      simp [show b ≤ j by omega, h2]
/-- and with its negative only the lowest bit is left -/
theorem low_one {w b : Nat} (hw : w < 2 ^ 64) (hb : w.testBit b = true) (h : ∀ j, j < b → w.testBit j = false) : w &&& (2 ^ 64 - w) = 2 ^ b := by
  have hb64 : b < 64 := by
    rcases Nat.lt_or_ge b 64 with z | z
    · exact z
    · rw [Nat.testBit_lt_two_pow (Nat.lt_of_lt_of_le hw (Nat.pow_le_pow_right (by omega) z))] at hb; cases hb
  apply Nat.eq_of_testBit_eq
  intro j
  rw [Nat.testBit_two_pow, Nat.testBit_and]
  have e : 2 ^ 64 - w = 2 ^ 64 - (w - 1 + 1) := by
    have : w ≠ 0 := fun z => by rw [z, Nat.zero_testBit] at hb; cases hb
    omega
  rw [e, Nat.testBit_two_pow_sub_succ (by omega)]
  have hc := low_clear hb h j
  rw [Nat.testBit_and] at hc
  by_cases h1 : j < 64
  · by_cases h2 : b = j
    · subst h2
      rw [hb] at hc ⊢
      simp at hc
      simp [h1, hc]
    · have : ¬ j = b := fun z => h2 z.symm
      simp [this] at hc
      cases h3 : w.testBit j with
      | false => simp [h2]
      | true => simp [hc h3, h2]
  · rw [Nat.testBit_lt_two_pow (Nat.lt_of_lt_of_le hw (Nat.pow_le_pow_right (by omega) (by omega)))]
    have : ¬ b = j := by omega
    simp [this]
theorem popc_pow {b : Nat} (h : b ≤ 64) : popc (2 ^ b - 1) = b := by
  unfold popc
  have e : ∀ n, n ≤ 64 → ce (fun j => (2 ^ b - 1).testBit j) n = min n b := by
    intro n
    induction n with
    | zero => intro _; simp [ce]
    | succ n ih =>
      intro hn
      show ce _ n + _ = _
      rw [ih (by omega)]
      by_cases q : n < b
      · simp [Nat.testBit_two_pow_sub_one, q]; omega
      · simp [Nat.testBit_two_pow_sub_one, q]; omega
  rw [e 64 (Nat.le_refl _)]; omega
theorem se_clear {w b : Nat} (g : Nat → Nat) (hb : w.testBit b = true) (h : ∀ j, j < b → w.testBit j = false) (hlt : b < 64) : se g (fun j => w.testBit j) 64 = g b + se g (fun j => (w &&& (w - 1)).testBit j) 64 := by
  have key : ∀ n, se g (fun j => w.testBit j) n = (if b < n then g b else 0) + se g (fun j => (w &&& (w - 1)).testBit j) n := by
    intro n
    induction n with
    | zero => simp [se]
    | succ n ih =>
      show se g _ n + _ = _ + (se g _ n + _)
      rw [ih]
      simp only [low_clear hb h n]
      by_cases e : n = b
      · subst e; simp [hb, Nat.add_comm]
      · by_cases e2 : b < n
        · rw [if_pos e2, if_pos (show b < n + 1 by omega)]; simp [e]; omega
        · rw [if_neg e2, if_neg (show ¬ b < n + 1 by omega)]; simp [h n (show n < b by omega)]
  rw [key 64, if_pos hlt]
theorem se_one (P : Nat → Bool) : ∀ n, se (fun _ => 1) P n = ce P n
  | 0 => rfl
  | n + 1 => by show se _ P n + _ = ce P n + _; rw [se_one P n]
theorem popc_clear {w b : Nat} (hb : w.testBit b = true) (h : ∀ j, j < b → w.testBit j = false) (hlt : b < 64) : popc w = 1 + popc (w &&& (w - 1)) := by
  unfold popc
  rw [← se_one, ← se_one]; exact se_clear (fun _ => 1) hb h hlt
/-- the words of the primes -/
def od (e : Nat) : Nat := 2 * e + 1
def pb (x e : Nat) : Bool := isP (od e) && decide (od e ≤ x)
def wdx (i x : Nat) : Nat := bN (fun b => pb x (64 * i + b)) 64
def wd (i : Nat) : Nat := bN (fun b => isP (od (64 * i + b))) 64
def RowOK (fw : Nat → Int) : Prop := ∀ i, i < 782 → fw i = (wd i : Int)
theorem wd_lt (i : Nat) : wd i < 2 ^ 64 := bN_lt _ 64
theorem wdx_lt (i x : Nat) : wdx i x < 2 ^ 64 := bN_lt _ 64
theorem wdx_all {i x : Nat} (h : 128 * i + 127 ≤ x) : wdx i x = wd i := bN_cong fun j hj => by unfold pb od; rw [decide_eq_true (by omega)]; simp
theorem wdx_none {i x : Nat} (h : x ≤ 128 * i) : wdx i x = 0 := by
  have : wdx i x = bN (fun _ => false) 64 := bN_cong fun j hj => by unfold pb od; rw [decide_eq_false (by omega)]; simp
  rw [this]
  have z : ∀ n, bN (fun _ => false) n = 0 := by
    intro n
    induction n with
    | zero => rfl
    | succ n ih => show bN _ n + _ = 0; rw [ih]; rfl
  exact z 64
theorem wdx_part {i x c : Nat} (hc : c < 64) (h : (x + 1) / 2 = 64 * i + c) : wd i &&& (2 ^ c - 1) = wdx i x := by
  have hw : wd i &&& (2 ^ c - 1) < 2 ^ 64 := Nat.lt_of_le_of_lt Nat.and_le_left (wd_lt i)
  refine bN_of hw fun j hj => ?_
  rw [Nat.testBit_and, Nat.testBit_two_pow_sub_one, wd, bN_tb]
  unfold pb
  have : (od (64 * i + j) ≤ x) ↔ j < c := by unfold od; omega
  rw [show decide (od (64 * i + j) ≤ x) = decide (j < c) from by simp [this]]
  simp [hj]
/-- counting primes by the words -/
theorem ct_odd {x : Nat} (P : Nat → Bool) : ∀ {N : Nat}, x ≤ 2 * N → ct (fun y => isP y && P y) x = (if 2 ≤ x ∧ P 2 = true then 1 else 0) + ce (fun e => pb x e && P (od e)) N := by
  have h2 : isP 2 = true := by decide
  have hev : ∀ y, 2 < y → y % 2 = 0 → isP y = false := fun y h1 h3 => by
    cases e : isP y with
    | false => rfl
    | true => have := isP_dvd e (Nat.le_refl 2) (Nat.dvd_of_mod_eq_zero h3); omega
  induction x with
  | zero =>
    intro N _
    rw [ce_0 (fun j _ => by unfold pb od; rw [decide_eq_false (by omega)]; simp)]
    rfl
  | succ x ih =>
    intro N hN
    rw [ct_s, ih (N := N) (by omega)]
    rcases Nat.mod_two_eq_zero_or_one x with hx | hx
    · -- x + 1 is odd
      obtain ⟨e0, he0⟩ : ∃ e0, x = 2 * e0 := ⟨x / 2, by omega⟩
      have hlt : e0 < N := by omega
      obtain ⟨d, hd⟩ : ∃ d, N = e0 + (1 + d) := ⟨N - e0 - 1, by omega⟩
      have key : ce (fun e => pb (x + 1) e && P (od e)) N = ce (fun e => pb x e && P (od e)) N + (if isP (x + 1) && P (x + 1) then 1 else 0) := by
        have g : ∀ Q : Nat → Bool, ce Q N = ce Q e0 + ((if Q e0 then 1 else 0) + ce (fun b => Q (e0 + (1 + b))) d) := fun Q => by
          rw [hd, ce_add, ce_add]
          congr 2
          show 0 + _ = _
          rw [Nat.zero_add]; rfl
        rw [g, g]
        have a1 : ce (fun e => pb (x + 1) e && P (od e)) e0 = ce (fun e => pb x e && P (od e)) e0 := ce_cong fun j hj => by
          unfold pb od; rw [show decide (2 * j + 1 ≤ x + 1) = decide (2 * j + 1 ≤ x) from by simp; omega]
        have a2 : ∀ y, y ≤ x + 1 → ce (fun b => pb y (e0 + (1 + b)) && P (od (e0 + (1 + b)))) d = 0 := fun y hy => ce_0 fun j _ => by
          unfold pb od; rw [decide_eq_false (by omega)]; simp
        rw [a1, a2 (x + 1) (Nat.le_refl _), a2 x (by omega)]
        have o : od e0 = x + 1 := by unfold od; omega
        unfold pb
        simp only [o]
        simp
        intro _ z
        omega
      rw [key]
      have : (2 ≤ x + 1 ∧ P 2 = true) ↔ (2 ≤ x ∧ P 2 = true) := ⟨fun h => ⟨by omega, h.2⟩, fun h => ⟨by omega, h.2⟩⟩
      rw [if_cg this]; omega
    · have key : ce (fun e => pb (x + 1) e && P (od e)) N = ce (fun e => pb x e && P (od e)) N := ce_cong fun j hj => by
        unfold pb od; rw [show decide (2 * j + 1 ≤ x + 1) = decide (2 * j + 1 ≤ x) from by simp; omega]
      rw [key]
      by_cases e : x = 1
      · subst e
        rw [h2, if_neg (fun z => by omega)]
        by_cases q : P 2 = true
        · rw [if_pos (by simp [q]), if_pos ⟨by omega, q⟩]; omega
        · rw [if_neg (by simp [q]), if_neg (fun z => q z.2)]; omega
      · rw [hev (x + 1) (by omega) (by omega)]
        have : (2 ≤ x + 1 ∧ P 2 = true) ↔ (2 ≤ x ∧ P 2 = true) := ⟨fun h => ⟨by omega, h.2⟩, fun h => ⟨by omega, h.2⟩⟩
        rw [if_cg this]; simp
end
section
/-! Long.bitCount, byte by byte -/
/-- masks of k bytes -/
def mB (c : Nat) : Nat → Nat
  | 0 => 0
  | k + 1 => c + 256 * mB c k
theorem and_byte (x m c : Nat) (hc : c < 256) : x &&& (c + 256 * m) = (x % 256 &&& c) + 256 * (x / 256 &&& m) := by
  have h8 : (256 : Nat) = 2 ^ 8 := by decide
  apply Nat.eq_of_testBit_eq
  intro j
  have lt : x % 256 &&& c < 2 ^ 8 := Nat.lt_of_le_of_lt Nat.and_le_right (by omega)
  rw [Nat.add_comm (x % 256 &&& c), Nat.add_comm c, h8, Nat.testBit_two_pow_mul_add _ (by omega), Nat.testBit_and, Nat.testBit_two_pow_mul_add _ (by omega), Nat.testBit_and, Nat.testBit_and, Nat.testBit_mod_two_pow, Nat.testBit_div_two_pow]
  by_cases h : j < 8
  · simp [h]
  · simp only [h, if_false]
    rw [show j - 8 + 8 = j by omega]
def s1 (x : Nat) (k : Nat) : Nat := x - (x / 2 &&& mB 85 k)
def s2 (x : Nat) (k : Nat) : Nat := (x &&& mB 51 k) + (x / 4 &&& mB 51 k)
def s3 (x : Nat) (k : Nat) : Nat := (x + x / 16) &&& mB 15 k
def p8 (b : Nat) : Nat := ce (fun j => b.testBit j) 8
theorem byte1 : ∀ b, b < 256 → ∀ c, c < 2 → (b / 2 + 128 * c) % 256 &&& 85 = b / 2 &&& 85 ∧ (b / 2 &&& 85) ≤ b := by
  intro b hb c hc
  have h := all_lt (N := 256) (P := fun b => (List.range 2).all fun c => decide ((b / 2 + 128 * c) % 256 &&& 85 = b / 2 &&& 85) && decide ((b / 2 &&& 85) ≤ b)) (by decide +kernel) hb
  have h2 := all_lt h hc
  simp only [Bool.and_eq_true, decide_eq_true_eq] at h2
  exact h2
theorem byte2 : ∀ b, b < 256 → ∀ c, c < 4 → (b / 4 + 64 * c) % 256 &&& 51 = b / 4 &&& 51 := by
  intro b hb c hc
  have h := all_lt (N := 256) (P := fun b => (List.range 4).all fun c => decide ((b / 4 + 64 * c) % 256 &&& 51 = b / 4 &&& 51)) (by decide +kernel) hb
  exact of_decide_eq_true (all_lt h hc)
theorem byteV : ∀ b, b < 256 → (b - (b / 2 &&& 85)) < 256 ∧ (((b - (b / 2 &&& 85)) &&& 51) + ((b - (b / 2 &&& 85)) / 4 &&& 51)) % 16 ≤ 4 ∧ (((b - (b / 2 &&& 85)) &&& 51) + ((b - (b / 2 &&& 85)) / 4 &&& 51)) ≤ 68 ∧ (((b - (b / 2 &&& 85)) &&& 51) + ((b - (b / 2 &&& 85)) / 4 &&& 51)) % 16 + (((b - (b / 2 &&& 85)) &&& 51) + ((b - (b / 2 &&& 85)) / 4 &&& 51)) / 16 = p8 b := by
  intro b hb
  have h := all_lt (N := 256) (P := fun b => decide ((b - (b / 2 &&& 85)) < 256) && decide ((((b - (b / 2 &&& 85)) &&& 51) + ((b - (b / 2 &&& 85)) / 4 &&& 51)) % 16 ≤ 4) && decide ((((b - (b / 2 &&& 85)) &&& 51) + ((b - (b / 2 &&& 85)) / 4 &&& 51)) ≤ 68) && decide ((((b - (b / 2 &&& 85)) &&& 51) + ((b - (b / 2 &&& 85)) / 4 &&& 51)) % 16 + (((b - (b / 2 &&& 85)) &&& 51) + ((b - (b / 2 &&& 85)) / 4 &&& 51)) / 16 = p8 b)) (by decide +kernel) hb
  simp only [Bool.and_eq_true, decide_eq_true_eq] at h
  exact ⟨h.1.1.1, h.1.1.2, h.1.2, h.2⟩
theorem s1_b (x k : Nat) : s1 x (k + 1) = (x % 256 - (x % 256 / 2 &&& 85)) + 256 * s1 (x / 256) k := by
  unfold s1
  have hb := Nat.mod_lt x (show 0 < 256 by decide)
  obtain ⟨b, hb0⟩ : ∃ b, x % 256 = b := ⟨_, rfl⟩
  obtain ⟨c, hc0⟩ : ∃ c, x / 256 = c := ⟨_, rfl⟩
  have hx : x = b + 256 * c := by omega
  rw [hb0, hc0]
  rw [hb0] at hb
  show x - (x / 2 &&& (85 + 256 * mB 85 k)) = _
  rw [and_byte _ _ _ (by decide)]
  have e1 : x / 2 % 256 = (b / 2 + 128 * (c % 2)) % 256 := by omega
  have e2 : x / 2 / 256 = c / 2 := by omega
  obtain ⟨f1, f2⟩ := byte1 b hb (c % 2) (by omega)
  rw [e1, e2, f1]
  have f3 : (c / 2 &&& mB 85 k) ≤ c := Nat.le_trans Nat.and_le_left (by omega)
  generalize (b / 2 &&& 85) = u at *
  generalize (c / 2 &&& mB 85 k) = v at *
  omega
theorem s2_b (x k : Nat) : s2 x (k + 1) = ((x % 256 &&& 51) + (x % 256 / 4 &&& 51)) + 256 * s2 (x / 256) k := by
  unfold s2
  have hb := Nat.mod_lt x (show 0 < 256 by decide)
  obtain ⟨b, hb0⟩ : ∃ b, x % 256 = b := ⟨_, rfl⟩
  obtain ⟨c, hc0⟩ : ∃ c, x / 256 = c := ⟨_, rfl⟩
  have hx : x = b + 256 * c := by omega
  show (x &&& (51 + 256 * mB 51 k)) + (x / 4 &&& (51 + 256 * mB 51 k)) = _
  rw [and_byte _ _ _ (by decide), and_byte _ _ _ (by decide)]
  have e1 : x / 4 % 256 = (b / 4 + 64 * (c % 4)) % 256 := by omega
  have e2 : x / 4 / 256 = c / 4 := by omega
  rw [e1, e2, byte2 b (by omega) (c % 4) (by omega), hb0, hc0]
  omega
theorem s3_b (x k : Nat) (h1 : x % 256 ≤ 68) (h2 : x / 256 % 16 ≤ 4) : s3 x (k + 1) = (x % 256 % 16 + x % 256 / 16) % 16 + 256 * s3 (x / 256) k := by
  unfold s3
  obtain ⟨b, hb0⟩ : ∃ b, x % 256 = b := ⟨_, rfl⟩
  obtain ⟨c, hc0⟩ : ∃ c, x / 256 = c := ⟨_, rfl⟩
  have hx : x = b + 256 * c := by omega
  show (x + x / 16 &&& (15 + 256 * mB 15 k)) = _
  rw [and_byte _ _ _ (by decide)]
  obtain ⟨u, hu⟩ : ∃ u, c / 16 = u := ⟨_, rfl⟩
  obtain ⟨v, hv⟩ : ∃ v, c % 16 = v := ⟨_, rfl⟩
  have hc2 : c = 16 * u + v := by omega
  have e0 : x + x / 16 = (b + b / 16 + 16 * v) + 256 * (c + u) := by omega
  have hlt : b + b / 16 + 16 * v < 256 := by omega
  have e1 : (x + x / 16) % 256 = b + b / 16 + 16 * (c % 16) := by rw [e0, Nat.add_mul_mod_self_left, Nat.mod_eq_of_lt hlt, hv]
  have e2 : (x + x / 16) / 256 = c + c / 16 := by rw [e0, Nat.add_mul_div_left _ _ (by decide), Nat.div_eq_of_lt hlt, hu, Nat.zero_add]
  rw [e1, e2, hb0, hc0, show (15 : Nat) = 2 ^ 4 - 1 from rfl, Nat.and_two_pow_sub_one_eq_mod]
  omega
theorem ce8 (w : Nat) : ∀ k, ce (fun j => w.testBit j) (8 * (k + 1)) = p8 (w % 256) + ce (fun j => (w / 256).testBit j) (8 * k) := by
  intro k
  rw [show 8 * (k + 1) = 8 + 8 * k by omega, ce_add]
  congr 1
  · exact ce_cong fun j hj => by rw [show (256 : Nat) = 2 ^ 8 from rfl, Nat.testBit_mod_two_pow]; simp [hj]
  · exact ce_cong fun j hj => by rw [show (256 : Nat) = 2 ^ 8 from rfl, Nat.testBit_div_two_pow, Nat.add_comm]
/-- the three first steps put each byte's count in its byte -/
def pB (w : Nat) : Nat → Nat
  | 0 => 0
  | k + 1 => p8 (w % 256) + 256 * pB (w / 256) k
theorem swar3 : ∀ (k w : Nat), s3 (s2 (s1 w k) k) k = pB w k ∧ (0 < k → s2 (s1 w k) k % 16 ≤ 4)
  | 0, w => ⟨by simp [s3, pB, mB], fun h => absurd h (Nat.lt_irrefl 0)⟩
  | k + 1, w => by
    have hb := Nat.mod_lt w (show 0 < 256 by decide)
    obtain ⟨v1, v2, v3, v4⟩ := byteV (w % 256) hb
    obtain ⟨i1, i2⟩ := swar3 k (w / 256)
    have a1 := s1_b w k
    have a2 := s2_b (s1 w (k + 1)) k
    generalize hy : w % 256 - (w % 256 / 2 &&& 85) = y at *
    have b1 : s1 w (k + 1) % 256 = y := by omega
    have b2 : s1 w (k + 1) / 256 = s1 (w / 256) k := by omega
    rw [b1, b2] at a2
    generalize hz : (y &&& 51) + (y / 4 &&& 51) = z at *
    have c1 : s2 (s1 w (k + 1)) (k + 1) % 256 = z := by omega
    have c2 : s2 (s1 w (k + 1)) (k + 1) / 256 = s2 (s1 (w / 256) k) k := by omega
    have hk : s2 (s1 (w / 256) k) k % 16 ≤ 4 := by
      rcases Nat.eq_zero_or_pos k with e | e
      · subst e; simp [s2, mB]
      · exact i2 e
    refine ⟨?_, fun _ => by omega⟩
    rw [s3_b _ _ (by rw [c1]; exact v3) (by rw [c2]; exact hk), c1, c2, i1]
    show _ = p8 (w % 256) + 256 * pB (w / 256) k
    omega
theorem p8_le (b : Nat) : p8 b ≤ 8 := ce_le _ 8
/-- the sum of the eight bytes -/
theorem swar_end (w : Nat) : ∃ a0 a1 a2 a3 a4 a5 a6 a7 : Nat, a0 ≤ 8 ∧ a1 ≤ 8 ∧ a2 ≤ 8 ∧ a3 ≤ 8 ∧ a4 ≤ 8 ∧ a5 ≤ 8 ∧ a6 ≤ 8 ∧ a7 ≤ 8 ∧ pB w 8 = a0 + 256 * (a1 + 256 * (a2 + 256 * (a3 + 256 * (a4 + 256 * (a5 + 256 * (a6 + 256 * a7)))))) ∧ popc w = a0 + a1 + a2 + a3 + a4 + a5 + a6 + a7 := by
  refine ⟨_, _, _, _, _, _, _, _, p8_le _, p8_le _, p8_le _, p8_le _, p8_le _, p8_le _, p8_le _, p8_le _, rfl, ?_⟩
  unfold popc
  rw [show 64 = 8 * (7 + 1) from rfl, ce8, ce8 _ 6, ce8 _ 5, ce8 _ 4, ce8 _ 3, ce8 _ 2, ce8 _ 1, ce8 _ 0]
  simp only [ce]
  omega
def fold3 (y : Nat) : Nat := ((y + y / 256) + (y + y / 256) / 65536 + ((y + y / 256) + (y + y / 256) / 65536) / 4294967296) % 128
theorem swar (w : Nat) : fold3 (s3 (s2 (s1 w 8) 8) 8) = popc w := by
  rw [(swar3 8 w).1]
  obtain ⟨a0, a1, a2, a3, a4, a5, a6, a7, h0, h1, h2, h3, h4, h5, h6, h7, e, e2⟩ := swar_end w
  rw [e2]
  obtain ⟨t7, f7⟩ : ∃ t, t = a7 := ⟨_, rfl⟩
  rw [← f7] at e
  obtain ⟨t6, f6⟩ : ∃ t, t = a6 + 256 * t7 := ⟨_, rfl⟩
  rw [← f6] at e
  obtain ⟨t5, f5⟩ : ∃ t, t = a5 + 256 * t6 := ⟨_, rfl⟩
  rw [← f5] at e
  obtain ⟨t4, f4⟩ : ∃ t, t = a4 + 256 * t5 := ⟨_, rfl⟩
  rw [← f4] at e
  obtain ⟨t3, f3⟩ : ∃ t, t = a3 + 256 * t4 := ⟨_, rfl⟩
  rw [← f3] at e
  obtain ⟨t2, f2⟩ : ∃ t, t = a2 + 256 * t3 := ⟨_, rfl⟩
  rw [← f2] at e
  obtain ⟨t1, f1⟩ : ∃ t, t = a1 + 256 * t2 := ⟨_, rfl⟩
  rw [← f1] at e
  rw [e]
  unfold fold3
  have y1 : (a0 + 256 * t1) / 256 = t1 := by omega
  rw [y1]
  have z1 : (a0 + 256 * t1 + t1) / 65536 = t2 + t3 := by omega
  rw [z1]
  have w1 : (a0 + 256 * t1 + t1 + (t2 + t3)) / 4294967296 = t4 + t5 + t6 + t7 := by omega
  rw [w1]
  omega
theorem s1_le (w : Nat) : s1 w 8 ≤ w := Nat.sub_le _ _
theorem mB_lt (c : Nat) (hc : c < 256) : ∀ k, mB c k < 256 ^ k
  | 0 => Nat.zero_lt_one
  | k + 1 => by
    have := mB_lt c hc k
    show c + 256 * mB c k < 256 ^ (k + 1)
    rw [Nat.pow_succ]; omega
end
section
/-! how many odd primes there are below 100000: by the divisor in common with the product of the small primes -/
def prodP : Nat := 61076929465933196099278943388997855150356143888238371488665496574810764573680243467182799164806563626522181311132959748531230210
theorem prodP_dvd {j : Nat} (h : j < 65) : sp j ∣ prodP := Nat.dvd_of_mod_eq_zero (of_decide_eq_true (all_lt (N := 65) (P := fun j => decide (prodP % sp j = 0)) (by decide +kernel) h))
def cG : Nat → Nat → Nat
  | 0, i => cond (Nat.beq (Nat.gcd (2 * i + 1) prodP) 1) 1 0
  | l + 1, i => cG l i + cG l (i + 2 ^ l)
theorem gcd_isP {a : Nat} (h1 : 2 ≤ a) (h2 : a < 100489) (hg : Nat.gcd a prodP = 1) : isP a = true := by
  refine isP_iff.mpr ⟨h1, ?_⟩
  by_cases hn : lf a = a
  · exact hn
  · exfalso
    have hr := lf_root h1 hn
    have hlt : lf a < 317 := by
      rcases Nat.lt_or_ge (lf a) 317 with z | z
      · exact z
      · have := Nat.mul_le_mul z z; omega
    obtain ⟨j, hj, e⟩ := sp_all hlt (lf_isP h1)
    have hd := (lf_spec h1).2.1
    rw [← e] at hd
    have := Nat.dvd_gcd hd (prodP_dvd hj)
    rw [hg] at this
    have := Nat.le_of_dvd (by decide) this
    have := sp_ge2 hj
    omega
theorem cG_ce : ∀ (l i : Nat), 1 ≤ i → 2 * (i + 2 ^ l) < 100489 → ce (fun e => isP (od e)) i + cG l i ≤ ce (fun e => isP (od e)) (i + 2 ^ l)
  | 0, i, h1, h => by
    show _ + cond (Nat.beq (Nat.gcd (2 * i + 1) prodP) 1) 1 0 ≤ ce (fun e => isP (od e)) (i + 1)
    show _ ≤ ce (fun e => isP (od e)) i + _
    cases hb : Nat.beq (Nat.gcd (2 * i + 1) prodP) 1 with
    | false => exact Nat.add_le_add_left (Nat.zero_le _) _
    | true =>
      have hp : isP (od i) = true := gcd_isP (by unfold od; omega) (by rw [Nat.pow_zero] at h; unfold od; omega) (Nat.eq_of_beq_eq_true hb)
      simp [hp]
  | l + 1, i, h1, h => by
    have hpos := Nat.two_pow_pos l
    have e : 2 ^ (l + 1) = 2 ^ l + 2 ^ l := by rw [Nat.pow_succ]; omega
    rw [e] at h ⊢
    have a1 := cG_ce l i h1 (by omega)
    have a2 := cG_ce l (i + 2 ^ l) (by omega) (by omega)
    rw [← Nat.add_assoc]
    show _ + (cG l i + cG l (i + 2 ^ l)) ≤ _
    omega
theorem ceo_158 : ce (fun e => isP (od e)) 158 = 64 := by decide +kernel
theorem cG_0 : cG 12 158 = 995 := by decide +kernel
theorem ceo_4254 : 1059 ≤ ce (fun e => isP (od e)) 4254 := Nat.le_trans (by rw [cG_0]; exact Nat.add_le_add_right (Nat.le_of_eq ceo_158.symm) 995) (show ce (fun e => isP (od e)) 158 + cG 12 158 ≤ ce (fun e => isP (od e)) 4254 from cG_ce 12 158 (by decide) (by decide))
theorem cG_1 : cG 12 4254 = 872 := by decide +kernel
theorem ceo_8350 : 1931 ≤ ce (fun e => isP (od e)) 8350 := Nat.le_trans (by rw [cG_1]; exact Nat.add_le_add_right (ceo_4254) 872) (show ce (fun e => isP (od e)) 4254 + cG 12 4254 ≤ ce (fun e => isP (od e)) 8350 from cG_ce 12 4254 (by decide) (by decide))
theorem cG_2 : cG 12 8350 = 819 := by decide +kernel
theorem ceo_12446 : 2750 ≤ ce (fun e => isP (od e)) 12446 := Nat.le_trans (by rw [cG_2]; exact Nat.add_le_add_right (ceo_8350) 819) (show ce (fun e => isP (od e)) 8350 + cG 12 8350 ≤ ce (fun e => isP (od e)) 12446 from cG_ce 12 8350 (by decide) (by decide))
theorem cG_3 : cG 12 12446 = 796 := by decide +kernel
theorem ceo_16542 : 3546 ≤ ce (fun e => isP (od e)) 16542 := Nat.le_trans (by rw [cG_3]; exact Nat.add_le_add_right (ceo_12446) 796) (show ce (fun e => isP (od e)) 12446 + cG 12 12446 ≤ ce (fun e => isP (od e)) 16542 from cG_ce 12 12446 (by decide) (by decide))
theorem cG_4 : cG 12 16542 = 775 := by decide +kernel
theorem ceo_20638 : 4321 ≤ ce (fun e => isP (od e)) 20638 := Nat.le_trans (by rw [cG_4]; exact Nat.add_le_add_right (ceo_16542) 775) (show ce (fun e => isP (od e)) 16542 + cG 12 16542 ≤ ce (fun e => isP (od e)) 20638 from cG_ce 12 16542 (by decide) (by decide))
theorem cG_5 : cG 12 20638 = 761 := by decide +kernel
theorem ceo_24734 : 5082 ≤ ce (fun e => isP (od e)) 24734 := Nat.le_trans (by rw [cG_5]; exact Nat.add_le_add_right (ceo_20638) 761) (show ce (fun e => isP (od e)) 20638 + cG 12 20638 ≤ ce (fun e => isP (od e)) 24734 from cG_ce 12 20638 (by decide) (by decide))
theorem cG_6 : cG 12 24734 = 757 := by decide +kernel
theorem ceo_28830 : 5839 ≤ ce (fun e => isP (od e)) 28830 := Nat.le_trans (by rw [cG_6]; exact Nat.add_le_add_right (ceo_24734) 757) (show ce (fun e => isP (od e)) 24734 + cG 12 24734 ≤ ce (fun e => isP (od e)) 28830 from cG_ce 12 24734 (by decide) (by decide))
theorem cG_7 : cG 12 28830 = 739 := by decide +kernel
theorem ceo_32926 : 6578 ≤ ce (fun e => isP (od e)) 32926 := Nat.le_trans (by rw [cG_7]; exact Nat.add_le_add_right (ceo_28830) 739) (show ce (fun e => isP (od e)) 28830 + cG 12 28830 ≤ ce (fun e => isP (od e)) 32926 from cG_ce 12 28830 (by decide) (by decide))
theorem cG_8 : cG 12 32926 = 725 := by decide +kernel
theorem ceo_37022 : 7303 ≤ ce (fun e => isP (od e)) 37022 := Nat.le_trans (by rw [cG_8]; exact Nat.add_le_add_right (ceo_32926) 725) (show ce (fun e => isP (od e)) 32926 + cG 12 32926 ≤ ce (fun e => isP (od e)) 37022 from cG_ce 12 32926 (by decide) (by decide))
theorem cG_9 : cG 12 37022 = 738 := by decide +kernel
theorem ceo_41118 : 8041 ≤ ce (fun e => isP (od e)) 41118 := Nat.le_trans (by rw [cG_9]; exact Nat.add_le_add_right (ceo_37022) 738) (show ce (fun e => isP (od e)) 37022 + cG 12 37022 ≤ ce (fun e => isP (od e)) 41118 from cG_ce 12 37022 (by decide) (by decide))
theorem cG_10 : cG 12 41118 = 713 := by decide +kernel
theorem ceo_45214 : 8754 ≤ ce (fun e => isP (od e)) 45214 := Nat.le_trans (by rw [cG_10]; exact Nat.add_le_add_right (ceo_41118) 713) (show ce (fun e => isP (od e)) 41118 + cG 12 41118 ≤ ce (fun e => isP (od e)) 45214 from cG_ce 12 41118 (by decide) (by decide))
theorem cG_11 : cG 12 45214 = 712 := by decide +kernel
theorem ceo_49310 : 9466 ≤ ce (fun e => isP (od e)) 49310 := Nat.le_trans (by rw [cG_11]; exact Nat.add_le_add_right (ceo_45214) 712) (show ce (fun e => isP (od e)) 45214 + cG 12 45214 ≤ ce (fun e => isP (od e)) 49310 from cG_ce 12 45214 (by decide) (by decide))
theorem cG_12 : cG 9 49310 = 93 := by decide +kernel
theorem ceo_49822 : 9559 ≤ ce (fun e => isP (od e)) 49822 := Nat.le_trans (by rw [cG_12]; exact Nat.add_le_add_right (ceo_49310) 93) (show ce (fun e => isP (od e)) 49310 + cG 9 49310 ≤ ce (fun e => isP (od e)) 49822 from cG_ce 9 49310 (by decide) (by decide))
theorem cG_13 : cG 7 49822 = 24 := by decide +kernel
theorem ceo_49950 : 9583 ≤ ce (fun e => isP (od e)) 49950 := Nat.le_trans (by rw [cG_13]; exact Nat.add_le_add_right (ceo_49822) 24) (show ce (fun e => isP (od e)) 49822 + cG 7 49822 ≤ ce (fun e => isP (od e)) 49950 from cG_ce 7 49822 (by decide) (by decide))
theorem cG_14 : cG 5 49950 = 5 := by decide +kernel
theorem ceo_49982 : 9588 ≤ ce (fun e => isP (od e)) 49982 := Nat.le_trans (by rw [cG_14]; exact Nat.add_le_add_right (ceo_49950) 5) (show ce (fun e => isP (od e)) 49950 + cG 5 49950 ≤ ce (fun e => isP (od e)) 49982 from cG_ce 5 49950 (by decide) (by decide))
theorem cG_15 : cG 4 49982 = 3 := by decide +kernel
theorem ceo_49998 : 9591 ≤ ce (fun e => isP (od e)) 49998 := Nat.le_trans (by rw [cG_15]; exact Nat.add_le_add_right (ceo_49982) 3) (show ce (fun e => isP (od e)) 49982 + cG 4 49982 ≤ ce (fun e => isP (od e)) 49998 from cG_ce 4 49982 (by decide) (by decide))
theorem cG_16 : cG 1 49998 = 0 := by decide +kernel
theorem ceo_50000 : 9591 ≤ ce (fun e => isP (od e)) 50000 := Nat.le_trans (by rw [cG_16]; exact Nat.add_le_add_right (ceo_49998) 0) (show ce (fun e => isP (od e)) 49998 + cG 1 49998 ≤ ce (fun e => isP (od e)) 50000 from cG_ce 1 49998 (by decide) (by decide))
theorem total0 : 9591 ≤ ce (fun e => isP (od e)) 50000 := ceo_50000
end
section
/-! The layer of this proof: a judgement K_ over pictures (world, locals, stack), contracts Ct (returns) and Cxt (returns or throws), and the kit's rows said in them. Numbers are integers: iI z is the int z, jL z the long z. -/
def iI (z : Int) : Int32 := Int32.ofInt z
def jL (z : Int) : Int64 := Int64.ofInt z
def aI (f : Nat → Int) : Nat → Int32 := fun k => iI (f k)
def aL (f : Nat → Int) : Nat → Int64 := fun k => jL (f k)
def upI (f : Nat → Int) (k : Nat) (v : Int) : Nat → Int := fun j => if j = k then v else f j
abbrev KG : Type := va_G × (ClassId × ClassId × ClassId × ClassId) × (Nat × Nat × Nat) × (Nat → Nat) × (Nat → Nat) × (Nat → Nat)
abbrev g_D (G : KG) : va_G := G.1
abbrev g_I (G : KG) : ClassId := G.2.1.1
abbrev g_J (G : KG) : ClassId := G.2.1.2.1
abbrev g_C (G : KG) : ClassId := G.2.1.2.2.1
abbrev g_Z (G : KG) : ClassId := G.2.1.2.2.2
abbrev g_tp (G : KG) : Nat := G.2.2.1.1
abbrev g_tg (G : KG) : Nat := G.2.2.1.2.1
abbrev g_tw (G : KG) : Nat := G.2.2.1.2.2
abbrev g_ad (G : KG) : Nat → Nat := G.2.2.2.1
abbrev g_sk (G : KG) : Nat → Nat := G.2.2.2.2.1
abbrev g_sv (G : KG) : Nat → Nat := G.2.2.2.2.2
def g_tys (G : KG) : List (ClassId × FieldType) := [(g_I G, .int), (g_J G, .long), (g_C G, .char), (g_Z G, .boolean)]
/-- the small primes, as the class has them -/
def spL : List Int := [2, 3, 5, 7, 11, 13, 17, 19, 23, 29, 31, 37, 41, 43, 47, 53, 59, 61, 67, 71, 73, 79, 83, 89, 97, 101, 103, 107, 109, 113, 127, 131, 137, 139, 149, 151, 157, 163, 167, 173, 179, 181, 191, 193, 197, 199, 211, 223, 227, 229, 233, 239, 241, 251, 257, 263, 269, 271, 277, 281, 283, 293, 307, 311, 313]
def spA (k : Nat) : Int := spL.getD k 0
def gpL : List Int := [1, 1000000, 1000000000000, 1000000000000000000]
def gpA (k : Nat) : Int := gpL.getD k 0
def wdN : List String := ["BOUND", "STRIKE", "SPARE", "AGAIN"]
def wdF : List (String × String × String × List Int32) := [("StruckCounts$Word", "lowest", "I", [1, 2, 2, 1]), ("StruckCounts$Word", "highest", "I", [99999, 9, 9, 0]), ("StruckCounts$Word", "needsNumber", "Z", [1, 0, 0, 0])]
def wdLen : List Nat := [5, 6, 5, 5]
def wdByt : List (List Int32) := [[98, 111, 117, 110, 100], [115, 116, 114, 105, 107, 101], [115, 112, 97, 114, 101], [97, 103, 97, 105, 110]]
/-- the strings of the thrown exceptions: their places in the class's file, their texts are of no matter -/
def exT : List (Nat × String) := [(181, "the bound is not 1 to 99999"), (284, "no prime can come"), (190, "the number is not 0 to 99999"), (198, "no state is remembered"), (151, "there is no such number to tell"), (281, "there is no such quotient"), (169, "the rest is not 0 to 3"), (174, "k is negative")]
def nestF : List (String × Nat × String × String × String × String) := [("StruckCounts", 123, "StruckCounts$Tally", "size", "I", "StruckCounts"), ("StruckCounts", 103, "StruckCounts$Board", "bound", "I", "StruckCounts"), ("StruckCounts$Store", 49, "StruckCounts$Board", "bound", "I", "StruckCounts"), ("StruckCounts", 138, "StruckCounts$Board", "came", "I", "StruckCounts"), ("StruckCounts$Store", 54, "StruckCounts$Board", "came", "I", "StruckCounts"), ("StruckCounts", 128, "StruckCounts$Board", "struck", "J", "StruckCounts"), ("StruckCounts$Store", 57, "StruckCounts$Board", "struck", "J", "StruckCounts"), ("StruckCounts", 195, "StruckCounts$Store", "remembered", "I", "StruckCounts"), ("StruckCounts$Primes", 19, "StruckCounts", "SMALL_PRIMES", "[I", "StruckCounts"), ("StruckCounts$Board", 58, "StruckCounts", "SMALL_PRIMES", "[I", "StruckCounts")]
def nestM : List (String × Nat × MethodName × String) := [("StruckCounts", 9, ⟨"StruckCounts$Text", "<init>", "()V"⟩, "StruckCounts"), ("StruckCounts$Board", 11, ⟨"StruckCounts$Tally", "<init>", "()V"⟩, "StruckCounts"), ("StruckCounts", 25, ⟨"StruckCounts$Store", "<init>", "()V"⟩, "StruckCounts"), ("StruckCounts$Store", 45, ⟨"StruckCounts", "outside", "(III)Z"⟩, "StruckCounts"), ("StruckCounts$Tally", 48, ⟨"StruckCounts", "outside", "(III)Z"⟩, "StruckCounts")]
def exC : List String := ["java/lang/IllegalArgumentException", "java/lang/IllegalStateException", "java/lang/IndexOutOfBoundsException"]
def exD : List MethodName := [⟨"java/lang/RuntimeException", "<init>", "(Ljava/lang/String;)V"⟩, ⟨"java/lang/Exception", "<init>", "(Ljava/lang/String;)V"⟩, ⟨"java/lang/Throwable", "<init>", "(Ljava/lang/String;)V"⟩]
def exN : List (String × String) := [("java/lang/IllegalArgumentException", "java/lang/IllegalStateException"), ("java/lang/IllegalArgumentException", "java/lang/IndexOutOfBoundsException"), ("java/lang/IllegalStateException", "java/lang/IllegalArgumentException"), ("java/lang/IllegalStateException", "java/lang/IndexOutOfBoundsException"), ("java/lang/IndexOutOfBoundsException", "java/lang/IllegalArgumentException"), ("java/lang/IndexOutOfBoundsException", "java/lang/IllegalStateException")]
/-- what the program's statics hold; none of their cells is in A -/
def St (G : KG) (A : Nat → Prop) (U : State) (H : Heap) : Prop :=
  (va_Z "StruckCounts" "SMALL_PRIMES" "[I" (.ref (g_tp G)) A U H ∧ va_T .int (g_tp G) 65 (fun j => .int (iI (spA j))) A U H) ∧
  (True ∧ True) ∧
  (True ∧ True) ∧
  (True ∧ True) ∧
  True ∧ True ∧
  (vx_Zq Bundle.tN "UNASSIGNED_STACK" Bundle.steD A U H ∧ vx_Zq Bundle.tN "SUPPRESSED_SENTINEL" Bundle.listD A U H) ∧
  (∀ q ∈ exT, ∃ sa, vk_R "StruckCounts" q.1 q.2 sa U) ∧
  (∀ q ∈ nestF, va_Nw (.fieldLinkNest q.1 q.2.1 q.2.2.1 q.2.2.2.1 q.2.2.2.2.1 q.2.2.2.2.2) U) ∧ (∀ q ∈ nestM, va_Nw (.methodLinkNest q.1 q.2.1 q.2.2.1 q.2.2.2) U) ∧ (∀ q ∈ exC, va_Nw (.castable q q) U) ∧ (∀ q ∈ exN, va_Nc q.1 q.2 U) ∧ (∀ q ∈ exD, va_Nw (.declares q) U) ∧ True
theorem St.moved {G : KG} {A : Nat → Prop} {u U : State} {H : Heap} (hw : u.WarmedH U.vm) (h : St G A u H) : St G A U H :=
  have hv := hw.alike
  ⟨⟨h.1.1.moved hv, h.1.2.moved hv⟩, ⟨trivial, trivial⟩, ⟨trivial, trivial⟩, ⟨trivial, trivial⟩, trivial, trivial, ⟨h.2.2.2.2.2.2.1.1.moved hv, h.2.2.2.2.2.2.1.2.moved hv⟩, fun q hq => (h.2.2.2.2.2.2.2.1 q hq).elim fun sa z => ⟨sa, z.warm hw⟩, fun q hq => (h.2.2.2.2.2.2.2.2.1 q hq).warmF hw, fun q hq => (h.2.2.2.2.2.2.2.2.2.1 q hq).warmM hw, fun q hq => (h.2.2.2.2.2.2.2.2.2.2.1 q hq).warmC hw, fun q hq => (h.2.2.2.2.2.2.2.2.2.2.2.1 q hq).moved hv, fun q hq => (h.2.2.2.2.2.2.2.2.2.2.2.2.1 q hq).warmD hw, trivial⟩
theorem St.samevm {G : KG} {A : Nat → Prop} {u U : State} {H : Heap} (hv : U.vm = u.vm) (h : St G A u H) : St G A U H :=
  have ha : u.vm.Alike U.vm := by rw [hv]; exact Vm.Alike.refl u.vm
  ⟨⟨h.1.1.moved ha, h.1.2.moved ha⟩, ⟨trivial, trivial⟩, ⟨trivial, trivial⟩, ⟨trivial, trivial⟩, trivial, trivial, ⟨h.2.2.2.2.2.2.1.1.moved ha, h.2.2.2.2.2.2.1.2.moved ha⟩, fun q hq => (h.2.2.2.2.2.2.2.1 q hq).elim fun sa z => ⟨sa, z.same hv⟩, fun q hq => (h.2.2.2.2.2.2.2.2.1 q hq).same rfl hv.symm, fun q hq => (h.2.2.2.2.2.2.2.2.2.1 q hq).same rfl hv.symm, fun q hq => (h.2.2.2.2.2.2.2.2.2.2.1 q hq).same rfl hv.symm, fun q hq => (h.2.2.2.2.2.2.2.2.2.2.2.1 q hq).moved ha, fun q hq => (h.2.2.2.2.2.2.2.2.2.2.2.2.1 q hq).same rfl hv.symm, trivial⟩
theorem St.kept {G : KG} {A : Nat → Prop} {U : State} {H H1 : Heap} (h : St G A U H) (hq : ∀ a : Nat, a < H.size → ¬ A a → H1[a]? = H[a]?) : St G A U H1 :=
  ⟨⟨h.1.1.kept hq, h.1.2.kept hq⟩, ⟨trivial, trivial⟩, ⟨trivial, trivial⟩, ⟨trivial, trivial⟩, trivial, trivial, ⟨h.2.2.2.2.2.2.1.1.kept hq, h.2.2.2.2.2.2.1.2.kept hq⟩, h.2.2.2.2.2.2.2.1, h.2.2.2.2.2.2.2.2.1, h.2.2.2.2.2.2.2.2.2.1, h.2.2.2.2.2.2.2.2.2.2.1, h.2.2.2.2.2.2.2.2.2.2.2.1, h.2.2.2.2.2.2.2.2.2.2.2.2.1, trivial⟩
theorem St.narrow {G : KG} {A B : Nat → Prop} {U : State} {H : Heap} (h : St G A U H) (hq : ∀ q, B q → A q) : St G B U H :=
  ⟨⟨h.1.1.narrow hq, h.1.2.narrow hq⟩, ⟨trivial, trivial⟩, ⟨trivial, trivial⟩, ⟨trivial, trivial⟩, trivial, trivial, ⟨h.2.2.2.2.2.2.1.1.narrow hq, h.2.2.2.2.2.2.1.2.narrow hq⟩, h.2.2.2.2.2.2.2.1, h.2.2.2.2.2.2.2.2.1, h.2.2.2.2.2.2.2.2.2.1, h.2.2.2.2.2.2.2.2.2.2.1, h.2.2.2.2.2.2.2.2.2.2.2.1, h.2.2.2.2.2.2.2.2.2.2.2.2.1, trivial⟩
/-- where a body stands: program, launch, env, room, start, method, args, frames below, method, code, goal, own cells, locals -/
abbrev KX : Type := Program × Launch × Env × Room × State × MethodId × Array Value × List Frame × Method × Code × (State → Prop) × (Nat → Prop) × Nat × KG
abbrev x_p (X : KX) : Program := X.1
abbrev x_l (X : KX) : Launch := X.2.1
abbrev x_e (X : KX) : Env := X.2.2.1
abbrev x_R (X : KX) : Room := X.2.2.2.1
abbrev x_s (X : KX) : State := X.2.2.2.2.1
abbrev x_m (X : KX) : MethodId := X.2.2.2.2.2.1
abbrev x_a (X : KX) : Array Value := X.2.2.2.2.2.2.1
abbrev x_b (X : KX) : List Frame := X.2.2.2.2.2.2.2.1
abbrev x_M (X : KX) : Method := X.2.2.2.2.2.2.2.2.1
abbrev x_c (X : KX) : Code := X.2.2.2.2.2.2.2.2.2.1
abbrev x_Q (X : KX) : State → Prop := X.2.2.2.2.2.2.2.2.2.2.1
abbrev x_A (X : KX) : Nat → Prop := X.2.2.2.2.2.2.2.2.2.2.2.1
abbrev x_n (X : KX) : Nat := X.2.2.2.2.2.2.2.2.2.2.2.2.1
abbrev x_G (X : KX) : KG := X.2.2.2.2.2.2.2.2.2.2.2.2.2
/-- W at a picture -/
def K_ (X : KX) (k j : Nat) (ws : va_W) (pc : Nat) (lo : List (Nat × Value)) (st : List Value) : Prop :=
  ∀ (H : Heap) (locs : List Loc) (ls : Array Slot), va_P (g_D (x_G X)) vwCl ws H → va_D (x_A X) ws → va_S (x_A X) (x_s X).heap H locs → lv_has ls (x_n X) lo →
    W (x_p X) (x_l X) (x_e X) (x_R X) (x_s X) (x_m X) (x_a X) (x_b X) (x_M X) (x_c X) H locs k j (x_Q X) (F0 (x_m X) pc ls st)
/-- what a body knows -/
def Cx (X : KX) (cc : ByteArray) (own : String) (Ts : List Cond) (ret : Option FieldType) (n : Nat) (rm : Room) : Prop :=
  (x_p X).tables.exec = Jvm.exec ∧ (x_c X).code = cc ∧ (x_s X).vm.findClass own = some (x_m X).cls ∧ (∀ w ∈ Ts, w.before (x_a X) (x_s X) = true) ∧ (∀ q : Nat, (x_s X).heap.size ≤ q → x_A X q) ∧
  (x_c X).maxLocals = x_n X ∧ va_K (g_D (x_G X)) vwCl (g_tys (x_G X)) (x_s X) ∧ St (x_G X) (x_A X) (x_s X) (x_s X).heap ∧ (x_M X).sig.returnType = ret ∧ (x_M X).locks = false ∧ x_n X = n ∧ x_R X = rm
section CX
variable {X : KX} {cc : ByteArray} {own : String} {Ts : List Cond} {ret : Option FieldType} {n : Nat} {rm : Room}
theorem Cx.e (C : Cx X cc own Ts ret n rm) : (x_p X).tables.exec = Jvm.exec := C.1
theorem Cx.b (C : Cx X cc own Ts ret n rm) : (x_c X).code = cc := C.2.1
theorem Cx.o (C : Cx X cc own Ts ret n rm) : (x_s X).vm.findClass own = some (x_m X).cls := C.2.2.1
theorem Cx.w (C : Cx X cc own Ts ret n rm) : ∀ w ∈ Ts, w.before (x_a X) (x_s X) = true := C.2.2.2.1
theorem Cx.at (C : Cx X cc own Ts ret n rm) (i : Nat) {w : Cond} (h : Ts[i]? = some w) : w.before (x_a X) (x_s X) = true := C.2.2.2.1 w (List.mem_of_getElem? h)
theorem Cx.A (C : Cx X cc own Ts ret n rm) : ∀ q : Nat, (x_s X).heap.size ≤ q → x_A X q := C.2.2.2.2.1
theorem Cx.nn (C : Cx X cc own Ts ret n rm) : (x_c X).maxLocals = x_n X := C.2.2.2.2.2.1
theorem Cx.K (C : Cx X cc own Ts ret n rm) : va_K (g_D (x_G X)) vwCl (g_tys (x_G X)) (x_s X) := C.2.2.2.2.2.2.1
theorem Cx.S (C : Cx X cc own Ts ret n rm) : St (x_G X) (x_A X) (x_s X) (x_s X).heap := C.2.2.2.2.2.2.2.1
theorem Cx.r (C : Cx X cc own Ts ret n rm) : (x_M X).sig.returnType = ret := C.2.2.2.2.2.2.2.2.1
theorem Cx.l (C : Cx X cc own Ts ret n rm) : (x_M X).locks = false := C.2.2.2.2.2.2.2.2.2.1
theorem Cx.N (C : Cx X cc own Ts ret n rm) : x_n X = n := C.2.2.2.2.2.2.2.2.2.2.1
theorem Cx.R (C : Cx X cc own Ts ret n rm) : x_R X = rm := C.2.2.2.2.2.2.2.2.2.2.2
theorem Cx.nF (C : Cx X cc own Ts ret n rm) (i : Nat) {q : String × Nat × String × String × String × String} (h : nestF[i]? = some q) : va_Nw (.fieldLinkNest q.1 q.2.1 q.2.2.1 q.2.2.2.1 q.2.2.2.2.1 q.2.2.2.2.2) (x_s X) := C.S.2.2.2.2.2.2.2.2.1 q (List.mem_of_getElem? h)
theorem Cx.nM (C : Cx X cc own Ts ret n rm) (i : Nat) {q : String × Nat × MethodName × String} (h : nestM[i]? = some q) : va_Nw (.methodLinkNest q.1 q.2.1 q.2.2.1 q.2.2.2) (x_s X) := C.S.2.2.2.2.2.2.2.2.2.1 q (List.mem_of_getElem? h)
theorem Cx.F (C : Cx X cc own Ts ret n rm) : CallFix (x_p X) (x_m X) (x_c X) cc (x_n X) (x_s X) (x_a X) Ts own := ⟨C.e, C.b, C.nn, C.o, C.w⟩
end CX
/-- what a method may leave: the answer and the world, out of u -/
def Qg (G : KG) {S : Type} (ok : S → Prop) (rv : S → Option Value) (w1 : S → va_W) (A : Nat → Prop) : Array Value → State → Outcome → State → Prop :=
  fun _ st oc t => (∃ u : S, oc = .returned (rv u) ∧ ok u ∧ va_P (g_D G) vwCl (w1 u) t.heap ∧ va_D A (w1 u)) ∧ va_F A st t
def Pg (G : KG) (av : List Value) (w : va_W) (sz : Nat) : Array Value → State → Prop :=
  va_Pc av (fun U => U.heap.size = sz ∧ va_P (g_D G) vwCl w U.heap ∧ va_K (g_D G) vwCl (g_tys G) U ∧ va_D (fun _ => True) w ∧ St G (va_A w sz) U U.heap)
/-- a contract: from the world w with the arguments av the method returns rv u and leaves the world w1 u, for some u with ok u -/
def Ct (l : Launch) (G : KG) (y : MethodName) (ws : List Cond) (rm : Room) (av : List Value) (w : va_W) {S : Type} (ok : S → Prop) (rv : S → Option Value) (w1 : S → va_W) : Prop :=
  ∀ sz : Nat, Met l y ws rm (Pg G av w sz) (Qg G ok rv w1 (va_A w sz)) rm.cells rm.slots (va_A w sz)
/-- .. or throws an exception of the kind ex v, and leaves the world wx v -/
def XCg (G : KG) {V : Type} (okx : V → Prop) (ex : V → String) (wx : V → va_W) (A : Nat → Prop) : String → State → State → Prop :=
  fun E st t => (∃ v : V, E = ex v ∧ okx v ∧ va_P (g_D G) vwCl (wx v) t.heap ∧ va_D A (wx v)) ∧ va_F A st t
def Cxt (l : Launch) (G : KG) (y : MethodName) (ws : List Cond) (rm : Room) (av : List Value) (w : va_W) {S V : Type} (ok : S → Prop) (rv : S → Option Value) (w1 : S → va_W) (okx : V → Prop) (ex : V → String) (wx : V → va_W) : Prop :=
  ∀ sz : Nat, vx_Met l y ws rm (Pg G av w sz) (Qg G ok rv w1 (va_A w sz)) (XCg G okx ex wx (va_A w sz)) rm.cells rm.slots (va_A w sz)
/-- what a return owes: the goal out of MQ -/
def Ret (X : KX) {S : Type} (ok : S → Prop) (rv : S → Option Value) (w1 : S → va_W) : Prop :=
  ∀ (H : Heap) (locs : List Loc) (k j : Nat) (g : JFrame), k ≤ (x_R X).cells → j ≤ (x_R X).slots →
    W (x_p X) (x_l X) (x_e X) (x_R X) (x_s X) (x_m X) (x_a X) (x_b X) (x_M X) (x_c X) H locs (x_R X).cells (x_R X).slots (MQ (x_b X) (Qg (x_G X) ok rv w1 (x_A X)) (x_a X) (x_s X) (x_R X).cells (x_R X).slots (x_A X)) g →
    W (x_p X) (x_l X) (x_e X) (x_R X) (x_s X) (x_m X) (x_a X) (x_b X) (x_M X) (x_c X) H locs k j (x_Q X) g
def rmD (d mc ms : Nat) : Room := { frames := d, cells := mc, slots := ms, locals := 36 * d }
theorem Pg.blind {G : KG} {av : List Value} {w : va_W} {sz : Nat} : FrameBlind (Pg G av w sz) := fun a U g mk q => by
  obtain ⟨q0, q1, qP, qK, qD, qS⟩ := q
  exact ⟨q0, q1, qP, va_K.moved (u := U) (U := U.calling g mk a) (Vm.Alike.refl U.vm) qK, qD, qS.samevm rfl⟩
theorem Ct.of {l : Launch} {G : KG} {y : MethodName} {ws ws' : List Cond} {rm : Room} {av : List Value} {w : va_W} {S : Type} {ok : S → Prop} {rv : S → Option Value} {w1 : S → va_W} {cc : ByteArray} {maxL : Nat} {ret : Option FieldType}
    (hy : plainName y.cls = true) (hw : ws = Cond.code y cc maxL ret :: ws') (hL : (lg_sl av).length ≤ maxL)
    (body : ∀ X : KX, Cx X cc y.cls ws ret maxL rm → x_G X = G → x_l X = l → (x_M X).name = y.name → Ret X ok rv w1 → K_ X 0 0 w 0 (lv_args 0 av) []) : Ct l G y ws rm av w ok rv w1 := by
  intro sz
  refine Met.ofW (cc := cc) (maxL := maxL) (ret := ret) hy hw ?_
  intro p e s m args below meth c s₁ B hml hv
  obtain ⟨rfl, hsz, hP, hK, hD0, hS0⟩ := hv
  subst hsz
  have hts := atoms_spec (ws := ws) B.pre
  have hown : s.vm.findClass y.cls = some m.cls := findClass_of_methodNamed B.named
  have hnm := (name_of_methodNamed B.named B.method).1
  have hD := hD0.self (sz := s.heap.size)
  have hl := lv_entry av (n := maxL) hL
  rw [lg_entry_eq]
  exact body (p, l, e, rm, s, m, av.toArray, below, meth, c, MQ below (Qg G ok rv w1 (va_A w s.heap.size)) av.toArray s rm.cells rm.slots (va_A w s.heap.size), va_A w s.heap.size, maxL, G)
    ⟨B.exec, B.bytes, hown, hts, fun q h => Or.inr h, hml, hK, hS0, B.returns, B.notSynchronized, rfl, rfl⟩ rfl rfl hnm (fun H locs k j g h1 h2 kk => W.widen h1 h2 kk) s.heap [] _ hP hD va_S.rf hl
theorem Cxt.of {l : Launch} {G : KG} {y : MethodName} {ws ws' : List Cond} {rm : Room} {av : List Value} {w : va_W} {S V : Type} {ok : S → Prop} {rv : S → Option Value} {w1 : S → va_W} {okx : V → Prop} {ex : V → String} {wx : V → va_W} {cc : ByteArray} {maxL : Nat} {ret : Option FieldType}
    (hy : plainName y.cls = true) (hw : ws = Cond.code y cc maxL ret :: ws') (hL : (lg_sl av).length ≤ maxL)
    (body : ∀ X : KX, Cx X cc y.cls ws ret maxL rm → x_G X = G → x_l X = l → (x_M X).name = y.name → Ret X ok rv w1 → x_Q X = vx_MQ (x_b X) (Qg G ok rv w1 (x_A X)) (XCg G okx ex wx (x_A X)) (x_a X) (x_s X) rm.cells rm.slots (x_A X) → (∀ x ∈ (x_c X).exceptionTable.toList, False) → K_ X 0 0 w 0 (lv_args 0 av) []) : Cxt l G y ws rm av w ok rv w1 okx ex wx := by
  intro sz
  refine vx_ofW (cc := cc) (maxL := maxL) (ret := ret) hy hw ?_
  intro p e s m args below meth c s₁ B hml htab hv
  obtain ⟨rfl, hsz, hP, hK, hD0, hS0⟩ := hv
  subst hsz
  have hts := atoms_spec (ws := ws) B.pre
  have hown : s.vm.findClass y.cls = some m.cls := findClass_of_methodNamed B.named
  have hnm := (name_of_methodNamed B.named B.method).1
  have hD := hD0.self (sz := s.heap.size)
  have hl := lv_entry av (n := maxL) hL
  rw [lg_entry_eq]
  exact body (p, l, e, rm, s, m, av.toArray, below, meth, c, vx_MQ below (Qg G ok rv w1 (va_A w s.heap.size)) (XCg G okx ex wx (va_A w s.heap.size)) av.toArray s rm.cells rm.slots (va_A w s.heap.size), va_A w s.heap.size, maxL, G)
    ⟨B.exec, B.bytes, hown, hts, fun q h => Or.inr h, hml, hK, hS0, B.returns, B.notSynchronized, rfl, rfl⟩ rfl rfl hnm (fun H locs k j g h1 h2 kk => vx_ret (W.widen h1 h2 kk)) rfl htab s.heap [] _ hP hD va_S.rf hl
end
section
/-! numbers: ints and longs as integers -/
theorem iI_toInt {z : Int} (h1 : -2147483648 ≤ z) (h2 : z < 2147483648) : (iI z).toInt = z := Int32.toInt_ofInt_of_le (by omega) (by omega)
theorem jL_toInt {z : Int} (h1 : -9223372036854775808 ≤ z) (h2 : z < 9223372036854775808) : (jL z).toInt = z := Int64.toInt_ofInt_of_le (by omega) (by omega)
theorem iI_of (x : Int32) : x = iI x.toInt := (Int32.ofInt_toInt x).symm
theorem jL_of (x : Int64) : x = jL x.toInt := (Int64.ofInt_toInt x).symm
theorem i32_rng (x : Int32) : -2147483648 ≤ x.toInt ∧ x.toInt < 2147483648 := by
  have h1 := Int32.le_toInt x
  have h2 := Int32.toInt_lt x
  omega
theorem i64_rng (x : Int64) : -9223372036854775808 ≤ x.toInt ∧ x.toInt < 9223372036854775808 := by
  have h1 := Int64.le_toInt x
  have h2 := Int64.toInt_lt x
  omega
theorem iI_ex (x : Int32) : ∃ z : Int, x = iI z ∧ -2147483648 ≤ z ∧ z < 2147483648 := ⟨x.toInt, iI_of x, i32_rng x⟩
theorem jL_ex (x : Int64) : ∃ z : Int, x = jL z ∧ -9223372036854775808 ≤ z ∧ z < 9223372036854775808 := ⟨x.toInt, jL_of x, i64_rng x⟩
theorem iI_add (a b : Int) : iI a + iI b = iI (a + b) := (Int32.ofInt_add a b).symm
theorem iI_sub (a b : Int) : iI a - iI b = iI (a - b) := (Int32.ofInt_sub a b).symm
theorem iI_mul (a b : Int) : iI a * iI b = iI (a * b) := (Int32.ofInt_mul a b).symm
theorem iI_neg (a : Int) : -iI a = iI (-a) := (Int32.ofInt_neg a).symm
theorem jL_add (a b : Int) : jL a + jL b = jL (a + b) := (Int64.ofInt_add a b).symm
theorem jL_sub (a b : Int) : jL a - jL b = jL (a - b) := (Int64.ofInt_sub a b).symm
theorem jL_mul (a b : Int) : jL a * jL b = jL (a * b) := (Int64.ofInt_mul a b).symm
theorem jL_neg (a : Int) : -jL a = jL (-a) := (Int64.ofInt_neg a).symm
theorem iI_lt {a b : Int} (a1 : -2147483648 ≤ a) (a2 : a < 2147483648) (b1 : -2147483648 ≤ b) (b2 : b < 2147483648) : iI a < iI b ↔ a < b := by rw [Int32.lt_iff_toInt_lt, iI_toInt a1 a2, iI_toInt b1 b2]
theorem iI_le {a b : Int} (a1 : -2147483648 ≤ a) (a2 : a < 2147483648) (b1 : -2147483648 ≤ b) (b2 : b < 2147483648) : iI a ≤ iI b ↔ a ≤ b := by rw [Int32.le_iff_toInt_le, iI_toInt a1 a2, iI_toInt b1 b2]
theorem iI_eq {a b : Int} (a1 : -2147483648 ≤ a) (a2 : a < 2147483648) (b1 : -2147483648 ≤ b) (b2 : b < 2147483648) : iI a = iI b ↔ a = b := ⟨fun h => by have h2 := congrArg Int32.toInt h; rwa [iI_toInt a1 a2, iI_toInt b1 b2] at h2, fun h => by rw [h]⟩
theorem jL_lt {a b : Int} (a1 : -9223372036854775808 ≤ a) (a2 : a < 9223372036854775808) (b1 : -9223372036854775808 ≤ b) (b2 : b < 9223372036854775808) : jL a < jL b ↔ a < b := by rw [Int64.lt_iff_toInt_lt, jL_toInt a1 a2, jL_toInt b1 b2]
theorem jL_eq {a b : Int} (a1 : -9223372036854775808 ≤ a) (a2 : a < 9223372036854775808) (b1 : -9223372036854775808 ≤ b) (b2 : b < 9223372036854775808) : jL a = jL b ↔ a = b := ⟨fun h => by have h2 := congrArg Int64.toInt h; rwa [jL_toInt a1 a2, jL_toInt b1 b2] at h2, fun h => by rw [h]⟩
theorem iI_clamp {z : Int} (h1 : -2147483648 ≤ z) (h2 : z < 2147483648) : (iI z).toNatClampNeg = z.toNat := by rw [← Int32.toNat_toInt, iI_toInt h1 h2]
theorem iI_in {z : Int} {n : Nat} (h0 : 0 ≤ z) (h1 : z < n) (hn : n < 2147483648) : vp_in (iI z) n := by
  rw [vp_in_iff, iI_toInt (by omega) (by omega)]
  exact ⟨h0, h1⟩
theorem iI_div {a b : Int} (a1 : 0 ≤ a) (a2 : a < 2147483648) (b1 : 0 < b) (b2 : b < 2147483648) : iI a / iI b = iI (a / b) := by
  have e1 : Int32.minValue.toInt = -2147483648 := by decide
  have e2 : Int32.maxValue.toInt = 2147483647 := by decide
  have h := Int32.ofInt_tdiv (a := a) (b := b) (by rw [e1]; omega) (by rw [e2]; omega) (by rw [e1]; omega) (by rw [e2]; omega)
  rw [Int.tdiv_eq_ediv_of_nonneg a1] at h
  exact h.symm
theorem jL_div {a b : Int} (a1 : 0 ≤ a) (a2 : a < 9223372036854775808) (b1 : 0 < b) (b2 : b < 9223372036854775808) : jL a / jL b = jL (a / b) := by
  have e1 : Int64.minValue.toInt = -9223372036854775808 := by decide
  have e2 : Int64.maxValue.toInt = 9223372036854775807 := by decide
  have h := Int64.ofInt_tdiv (a := a) (b := b) (by rw [e1]; omega) (by rw [e2]; omega) (by rw [e1]; omega) (by rw [e2]; omega)
  rw [Int.tdiv_eq_ediv_of_nonneg a1] at h
  exact h.symm
theorem iI_rem {a b : Int} (a1 : 0 ≤ a) (a2 : a < 2147483648) (b1 : 0 < b) (b2 : b < 2147483648) : iI a - iI a / iI b * iI b = iI (a % b) := by
  rw [iI_div a1 a2 b1 b2, iI_mul, iI_sub, Int.emod_def, Int.mul_comm]
theorem jL_rem {a b : Int} (a1 : 0 ≤ a) (a2 : a < 9223372036854775808) (b1 : 0 < b) (b2 : b < 9223372036854775808) : jL a - jL a / jL b * jL b = jL (a % b) := by
  rw [jL_div a1 a2 b1 b2, jL_mul, jL_sub, Int.emod_def, Int.mul_comm]
theorem iI_ne0 {b : Int} (b1 : 0 < b) (b2 : b < 2147483648) : ¬ iI b = 0 := fun h => by
  have := (iI_eq (a := b) (b := 0) (by omega) b2 (by decide) (by decide)).mp h
  omega
theorem jL_ne0 {b : Int} (b1 : 0 < b) (b2 : b < 9223372036854775808) : ¬ jL b = 0 := fun h => by
  have := (jL_eq (a := b) (b := 0) (by omega) b2 (by decide) (by decide)).mp h
  omega
theorem iI_l {z : Int} (h1 : -2147483648 ≤ z) (h2 : z < 2147483648) : (iI z).toInt64 = jL z := by
  rw [← Int64.ofInt_int32ToInt, iI_toInt h1 h2]; rfl
theorem jL_i (z : Int) : (jL z).toInt32 = iI z := Int64.toInt32_ofInt
def cmpI (a b : Int) : Int := if a > b then 1 else if a = b then 0 else -1
theorem jL_cmp {a b : Int} (a1 : -9223372036854775808 ≤ a) (a2 : a < 9223372036854775808) (b1 : -9223372036854775808 ≤ b) (b2 : b < 9223372036854775808) : lg_cmp (jL a) (jL b) = iI (cmpI a b) := by
  unfold lg_cmp cmpI
  by_cases h : a > b
  · rw [if_pos h, if_pos ((jL_lt b1 b2 a1 a2).mpr h)]; rfl
  · rw [if_neg h, if_neg (fun z => h ((jL_lt b1 b2 a1 a2).mp z))]
    by_cases h2 : a = b
    · rw [if_pos h2, if_pos (by rw [h2])]; rfl
    · rw [if_neg h2, if_neg (fun z => h2 ((jL_eq a1 a2 b1 b2).mp z))]; rfl
theorem cmpI_rng (a b : Int) : -1 ≤ cmpI a b ∧ cmpI a b ≤ 1 ∧ (cmpI a b = 0 ↔ a = b) ∧ (cmpI a b < 0 ↔ a < b) ∧ (0 < cmpI a b ↔ b < a) := by
  unfold cmpI
  by_cases h : a > b
  · rw [if_pos h]; omega
  · rw [if_neg h]
    by_cases h2 : a = b
    · rw [if_pos h2]; omega
    · rw [if_neg h2]; omega
theorem nI_iI (n : Nat) : nI n = iI (n : Int) := by
  apply Int32.toBitVec.inj
  show BitVec.ofNat 32 n = BitVec.ofInt 32 (n : Int)
  exact (BitVec.ofInt_natCast 32 n).symm
theorem lN_jL (n : Nat) : lN n = jL (n : Int) := by
  apply Int64.toBitVec.inj
  show BitVec.ofNat 64 n = BitVec.ofInt 64 (n : Int)
  exact (BitVec.ofInt_natCast 64 n).symm
theorem iI_mask (a : Int) (k : Nat) (hk : k ≤ 31) : iI a &&& nI (2 ^ k - 1) = iI (a % (2 ^ k : Nat)) := by
  have hm : (nI (2 ^ k - 1)).toBitVec.toNat = 2 ^ k - 1 := pk_tn (by
    have := Nat.pow_le_pow_right (n := 2) (by decide) hk
    omega)
  rw [pk_and (iI a) k hm, nI_iI]
  congr 1
  show (((BitVec.ofInt 32 a).toNat % 2 ^ k : Nat) : Int) = _
  rw [BitVec.toNat_ofInt, Int.natCast_emod, Int.toNat_of_nonneg (Int.emod_nonneg _ (by decide))]
  exact Int.emod_emod_of_dvd a (Int.natCast_dvd_natCast.mpr (Nat.pow_dvd_pow 2 (by omega)))
theorem aI_upd (f : Nat → Int) (k : Nat) (v : Int) : upd (aI f) k (iI v) = aI (upI f k v) := by
  funext q
  by_cases h : q = k <;> simp [upd, aI, upI, h]
theorem aL_upd (f : Nat → Int) (k : Nat) (v : Int) : vp_updL (aL f) k (jL v) = aL (upI f k v) := by
  funext q
  by_cases h : q = k <;> simp [vp_updL, aL, upI, h]
theorem upI_s {f : Nat → Int} {k : Nat} {v : Int} : upI f k v k = v := if_pos rfl
theorem upI_n {f : Nat → Int} {k j : Nat} {v : Int} (h : j ≠ k) : upI f k v j = f j := if_neg h
end
section
/-! the kit's rows over K_ -/
section KR
variable {X : KX} {cc : ByteArray} {own : String} {Ts : List Cond} {ret : Option FieldType} {n : Nat} {rm : Room} {k j pc : Nat} {ws : va_W} {lo lo' : List (Nat × Value)} {st : List Value}
theorem k_eq {lo2 : List (Nat × Value)} {ws2 : va_W} {st2 : List Value} {pc2 : Nat} (h1 : ws = ws2) (h2 : lo = lo2) (h3 : st = st2) (h4 : pc = pc2) (kk : K_ X k j ws2 pc2 lo2 st2) : K_ X k j ws pc lo st := by
  subst h1; subst h2; subst h3; subst h4; exact kk
theorem k_lo (is : List Nat) (h : lv_pick lo is = lo') (kk : K_ X k j ws pc lo' st) : K_ X k j ws pc lo st := fun H locs ls hP hD hS hl => kk H locs ls hP hD hS (lv_sub hl is h)
theorem k_ws {ws2 : va_W} (is : List Nat) (hn : va_nd is = true) (h : is.map (fun i => ws[i]?) = ws2.map some) (kk : K_ X k j ws2 pc lo st) : K_ X k j ws pc lo st := fun H locs ls hP hD hS hl => kk H locs ls (hP.sub is (by
  have := congrArg (List.filterMap id) h
  simpa [List.filterMap_map, Function.comp_def] using this)) (hD.sub is hn h) hS hl
theorem k_wide {k2 j2 : Nat} (h1 : k ≤ k2) (h2 : j ≤ j2) (kk : K_ X k2 j2 ws pc lo st) : K_ X k j ws pc lo st := fun H locs ls hP hD hS hl => W.widen h1 h2 (kk H locs ls hP hD hS hl)
/-- a name for the number on top -/
theorem k_nmI {z : Int} (kk : ∀ y : Int, y = z → K_ X k j ws pc lo (.int (iI y) :: st)) : K_ X k j ws pc lo (.int (iI z) :: st) := kk z rfl
theorem k_nmL {z : Int} (kk : ∀ y : Int, y = z → K_ X k j ws pc lo (.long (jL y) :: st)) : K_ X k j ws pc lo (.long (jL z) :: st) := kk z rfl
/-- another form of the number on top -/
theorem k_asI {x : Int32} {z : Int} (h : x = iI z) (kk : K_ X k j ws pc lo (.int (iI z) :: st)) : K_ X k j ws pc lo (.int x :: st) := by rw [h]; exact kk
theorem k_asL {x : Int64} {z : Int} (h : x = jL z) (kk : K_ X k j ws pc lo (.long (jL z) :: st)) : K_ X k j ws pc lo (.long x :: st) := by rw [h]; exact kk
theorem k_iconst (C : Cx X cc own Ts ret n rm) {z : Int} (hd : decode cc pc = .ok (.iconst z, 1)) (kk : K_ X k j ws (pc + 1) lo (.int (iI z) :: st)) : K_ X k j ws pc lo st := fun H locs ls hP hD hS hl => lv_iconst C.e C.b hd rfl (kk H locs ls hP hD hS hl)
theorem k_bipush (C : Cx X cc own Ts ret n rm) {z : Int} (hd : decode cc pc = .ok (.bipush z, 2)) (hz : (Int8.ofInt z).toInt32 = iI z) (kk : K_ X k j ws (pc + 2) lo (.int (iI z) :: st)) : K_ X k j ws pc lo st := fun H locs ls hP hD hS hl => lv_bipush C.e C.b hd hz (kk H locs ls hP hD hS hl)
theorem k_sipush (C : Cx X cc own Ts ret n rm) {z : Int} (hd : decode cc pc = .ok (.sipush z, 3)) (hz : (Int16.ofInt z).toInt32 = iI z) (kk : K_ X k j ws (pc + 3) lo (.int (iI z) :: st)) : K_ X k j ws pc lo st := fun H locs ls hP hD hS hl => lv_sipush C.e C.b hd hz (kk H locs ls hP hD hS hl)
theorem k_lconst (C : Cx X cc own Ts ret n rm) {z : Fin 2} (hd : decode cc pc = .ok (.lconst z, 1)) (y : Int) (hz : Int64.ofNat (z : Nat) = jL y) (kk : K_ X k j ws (pc + 1) lo (.long (jL y) :: st)) : K_ X k j ws pc lo st := fun H locs ls hP hD hS hl => lv_lconst C.e C.b hd hz (kk H locs ls hP hD hS hl)
theorem k_ldc (C : Cx X cc own Ts ret n rm) {ix : Nat} {v : Int32} (z : Int) (iw : Nat) (hw : Ts[iw]? = some (.constant own ix v)) (hv : v = iI z) (hd : decode cc pc = .ok (.ldc ix, 2)) (kk : K_ X k j ws (pc + 2) lo (.int (iI z) :: st)) : K_ X k j ws pc lo st := fun H locs ls hP hD hS hl => lv_ldc C.e C.b C.o (C.at iw (by rw [hw, hv])) hd (kk H locs ls hP hD hS hl)
theorem k_ldc2 (C : Cx X cc own Ts ret n rm) {ix : Nat} {v : Int64} (z : Int) (iw : Nat) (hw : Ts[iw]? = some (.constantLong own ix v)) (hv : v = jL z) (hd : decode cc pc = .ok (.ldc2_w ix, 3)) (kk : K_ X k j ws (pc + 3) lo (.long (jL z) :: st)) : K_ X k j ws pc lo st := fun H locs ls hP hD hS hl => lv_ldc2 C.e C.b C.o (C.at iw (by rw [hw, hv])) hd (kk H locs ls hP hD hS hl)
theorem k_null (C : Cx X cc own Ts ret n rm) (hd : decode cc pc = .ok (.aconst_null, 1)) (kk : K_ X k j ws (pc + 1) lo (.null :: st)) : K_ X k j ws pc lo st := fun H locs ls hP hD hS hl => lv_null C.e C.b hd (kk H locs ls hP hD hS hl)
theorem k_iload_n (C : Cx X cc own Ts ret n rm) {f : Fin 4} {i : Nat} {x : Int32} (q : Nat) (hq : lo[q]? = some (i, .int x)) (hd : decode cc pc = .ok (.iload_n f, 1)) (hi : (f : Nat) = i) (kk : K_ X k j ws (pc + 1) lo (.int x :: st)) : K_ X k j ws pc lo st := fun H locs ls hP hD hS hl => lv_iload_n C.e C.b hd hi (lv_at hl q hq) (kk H locs ls hP hD hS hl)
theorem k_iload (C : Cx X cc own Ts ret n rm) {i : Nat} {x : Int32} (q : Nat) (hq : lo[q]? = some (i, .int x)) (hd : decode cc pc = .ok (.iload i, 2)) (kk : K_ X k j ws (pc + 2) lo (.int x :: st)) : K_ X k j ws pc lo st := fun H locs ls hP hD hS hl => lv_iload C.e C.b hd (lv_at hl q hq) (kk H locs ls hP hD hS hl)
theorem k_lload_n (C : Cx X cc own Ts ret n rm) {f : Fin 4} {i : Nat} {x : Int64} (q : Nat) (hq : lo[q]? = some (i, .long x)) (hd : decode cc pc = .ok (.lload_n f, 1)) (hi : (f : Nat) = i) (kk : K_ X k j ws (pc + 1) lo (.long x :: st)) : K_ X k j ws pc lo st := fun H locs ls hP hD hS hl => lv_lload_n C.e C.b hd hi (lv_at hl q hq) (kk H locs ls hP hD hS hl)
theorem k_lload (C : Cx X cc own Ts ret n rm) {i : Nat} {x : Int64} (q : Nat) (hq : lo[q]? = some (i, .long x)) (hd : decode cc pc = .ok (.lload i, 2)) (kk : K_ X k j ws (pc + 2) lo (.long x :: st)) : K_ X k j ws pc lo st := fun H locs ls hP hD hS hl => lv_lload C.e C.b hd (lv_at hl q hq) (kk H locs ls hP hD hS hl)
theorem k_aload_n (C : Cx X cc own Ts ret n rm) {f : Fin 4} {i : Nat} {x : Nat} (q : Nat) (hq : lo[q]? = some (i, .ref x)) (hd : decode cc pc = .ok (.aload_n f, 1)) (hi : (f : Nat) = i) (kk : K_ X k j ws (pc + 1) lo (.ref x :: st)) : K_ X k j ws pc lo st := fun H locs ls hP hD hS hl => lv_aload_n C.e C.b hd hi (lv_at hl q hq) (kk H locs ls hP hD hS hl)
theorem k_aload (C : Cx X cc own Ts ret n rm) {i : Nat} {x : Nat} (q : Nat) (hq : lo[q]? = some (i, .ref x)) (hd : decode cc pc = .ok (.aload i, 2)) (kk : K_ X k j ws (pc + 2) lo (.ref x :: st)) : K_ X k j ws pc lo st := fun H locs ls hP hD hS hl => lv_aload C.e C.b hd (lv_at hl q hq) (kk H locs ls hP hD hS hl)
theorem k_aload_nN (C : Cx X cc own Ts ret n rm) {f : Fin 4} {i : Nat} (q : Nat) (hq : lo[q]? = some (i, .null)) (hd : decode cc pc = .ok (.aload_n f, 1)) (hi : (f : Nat) = i) (kk : K_ X k j ws (pc + 1) lo (.null :: st)) : K_ X k j ws pc lo st := fun H locs ls hP hD hS hl => lv_aload_nN C.e C.b hd hi (lv_at hl q hq) (kk H locs ls hP hD hS hl)
theorem k_istore_n (C : Cx X cc own Ts ret n rm) {f : Fin 4} {i : Nat} {x : Int32} (hd : decode cc pc = .ok (.istore_n f, 1)) (hi : (f : Nat) = i) (hn : i < n) (h2 : (i, Value.int x) :: lo.filter (fun q => !(q.1 == i) && !(q.1 + 1 == i && q.2.category == 2)) = lo') (kk : K_ X k j ws (pc + 1) lo' st) : K_ X k j ws pc lo (.int x :: st) := fun H locs ls hP hD hS hl => lv_istore_n C.e C.b hd hi hl (by rw [C.N]; exact hn) h2 (fun ls' hl' => kk H locs ls' hP hD hS hl')
theorem k_istore (C : Cx X cc own Ts ret n rm) {i : Nat} {x : Int32} (hd : decode cc pc = .ok (.istore i, 2)) (hn : i < n) (h2 : (i, Value.int x) :: lo.filter (fun q => !(q.1 == i) && !(q.1 + 1 == i && q.2.category == 2)) = lo') (kk : K_ X k j ws (pc + 2) lo' st) : K_ X k j ws pc lo (.int x :: st) := fun H locs ls hP hD hS hl => lv_istore C.e C.b hd hl (by rw [C.N]; exact hn) h2 (fun ls' hl' => kk H locs ls' hP hD hS hl')
theorem k_astore_n (C : Cx X cc own Ts ret n rm) {f : Fin 4} {i : Nat} {x : Nat} (hd : decode cc pc = .ok (.astore_n f, 1)) (hi : (f : Nat) = i) (hn : i < n) (h2 : (i, Value.ref x) :: lo.filter (fun q => !(q.1 == i) && !(q.1 + 1 == i && q.2.category == 2)) = lo') (kk : K_ X k j ws (pc + 1) lo' st) : K_ X k j ws pc lo (.ref x :: st) := fun H locs ls hP hD hS hl => lv_astore_n C.e C.b hd hi hl (by rw [C.N]; exact hn) h2 (fun ls' hl' => kk H locs ls' hP hD hS hl')
theorem k_astore (C : Cx X cc own Ts ret n rm) {i : Nat} {x : Nat} (hd : decode cc pc = .ok (.astore i, 2)) (hn : i < n) (h2 : (i, Value.ref x) :: lo.filter (fun q => !(q.1 == i) && !(q.1 + 1 == i && q.2.category == 2)) = lo') (kk : K_ X k j ws (pc + 2) lo' st) : K_ X k j ws pc lo (.ref x :: st) := fun H locs ls hP hD hS hl => lv_astore C.e C.b hd hl (by rw [C.N]; exact hn) h2 (fun ls' hl' => kk H locs ls' hP hD hS hl')
theorem k_lstore_n (C : Cx X cc own Ts ret n rm) {f : Fin 4} {i : Nat} {x : Int64} (hd : decode cc pc = .ok (.lstore_n f, 1)) (hi : (f : Nat) = i) (hn : i + 1 < n) (h2 : (i, Value.long x) :: lo.filter (fun q => !(q.1 == i) && (!(q.1 == i + 1) && !(q.1 + 1 == i && q.2.category == 2))) = lo') (kk : K_ X k j ws (pc + 1) lo' st) : K_ X k j ws pc lo (.long x :: st) := fun H locs ls hP hD hS hl => lv_lstore_n C.e C.b hd hi hl (by rw [C.N]; exact hn) h2 (fun ls' hl' => kk H locs ls' hP hD hS hl')
theorem k_lstore (C : Cx X cc own Ts ret n rm) {i : Nat} {x : Int64} (hd : decode cc pc = .ok (.lstore i, 2)) (hn : i + 1 < n) (h2 : (i, Value.long x) :: lo.filter (fun q => !(q.1 == i) && (!(q.1 == i + 1) && !(q.1 + 1 == i && q.2.category == 2))) = lo') (kk : K_ X k j ws (pc + 2) lo' st) : K_ X k j ws pc lo (.long x :: st) := fun H locs ls hP hD hS hl => lv_lstore C.e C.b hd hl (by rw [C.N]; exact hn) h2 (fun ls' hl' => kk H locs ls' hP hD hS hl')
theorem k_iinc (C : Cx X cc own Ts ret n rm) {i : Nat} {d x : Int} (q : Nat) (hq : lo[q]? = some (i, .int (iI x))) (hd : decode cc pc = .ok (.iinc i d, 3)) (hn : i < n) (y : Int) (hy : y = x + d) (h2 : (i, Value.int (iI y)) :: lo.filter (fun q => !(q.1 == i) && !(q.1 + 1 == i && q.2.category == 2)) = lo') (kk : K_ X k j ws (pc + 3) lo' st) : K_ X k j ws pc lo st := fun H locs ls hP hD hS hl => lv_iinc C.e C.b hd hl hq (by rw [hy]; exact iI_add x d) (by rw [C.N]; exact hn) h2 (fun ls' hl' => kk H locs ls' hP hD hS hl')
theorem k_iadd (C : Cx X cc own Ts ret n rm) {x y : Int} (hd : decode cc pc = .ok (.iadd, 1)) (kk : K_ X k j ws (pc + 1) lo (.int (iI (x + y)) :: st)) : K_ X k j ws pc lo (.int (iI y) :: .int (iI x) :: st) := fun H locs ls hP hD hS hl => lv_iadd C.e C.b hd (by rw [iI_add]; exact kk H locs ls hP hD hS hl)
theorem k_isub (C : Cx X cc own Ts ret n rm) {x y : Int} (hd : decode cc pc = .ok (.isub, 1)) (kk : K_ X k j ws (pc + 1) lo (.int (iI (x - y)) :: st)) : K_ X k j ws pc lo (.int (iI y) :: .int (iI x) :: st) := fun H locs ls hP hD hS hl => lv_isub C.e C.b hd (by rw [iI_sub]; exact kk H locs ls hP hD hS hl)
theorem k_imul (C : Cx X cc own Ts ret n rm) {x y : Int} (hd : decode cc pc = .ok (.imul, 1)) (kk : K_ X k j ws (pc + 1) lo (.int (iI (x * y)) :: st)) : K_ X k j ws pc lo (.int (iI y) :: .int (iI x) :: st) := fun H locs ls hP hD hS hl => lv_imul C.e C.b hd (by rw [iI_mul]; exact kk H locs ls hP hD hS hl)
theorem k_ladd (C : Cx X cc own Ts ret n rm) {x y : Int} (hd : decode cc pc = .ok (.ladd, 1)) (kk : K_ X k j ws (pc + 1) lo (.long (jL (x + y)) :: st)) : K_ X k j ws pc lo (.long (jL y) :: .long (jL x) :: st) := fun H locs ls hP hD hS hl => lv_ladd C.e C.b hd (by rw [jL_add]; exact kk H locs ls hP hD hS hl)
theorem k_lsub (C : Cx X cc own Ts ret n rm) {x y : Int} (hd : decode cc pc = .ok (.lsub, 1)) (kk : K_ X k j ws (pc + 1) lo (.long (jL (x - y)) :: st)) : K_ X k j ws pc lo (.long (jL y) :: .long (jL x) :: st) := fun H locs ls hP hD hS hl => lv_lsub C.e C.b hd (by rw [jL_sub]; exact kk H locs ls hP hD hS hl)
theorem k_lmul (C : Cx X cc own Ts ret n rm) {x y : Int} (hd : decode cc pc = .ok (.lmul, 1)) (kk : K_ X k j ws (pc + 1) lo (.long (jL (x * y)) :: st)) : K_ X k j ws pc lo (.long (jL y) :: .long (jL x) :: st) := fun H locs ls hP hD hS hl => lv_lmul C.e C.b hd (by rw [jL_mul]; exact kk H locs ls hP hD hS hl)
theorem k_ineg (C : Cx X cc own Ts ret n rm) {x : Int} (hd : decode cc pc = .ok (.ineg, 1)) (kk : K_ X k j ws (pc + 1) lo (.int (iI (-x)) :: st)) : K_ X k j ws pc lo (.int (iI x) :: st) := fun H locs ls hP hD hS hl => lv_ineg C.e C.b hd (by rw [iI_neg]; exact kk H locs ls hP hD hS hl)
theorem k_lneg (C : Cx X cc own Ts ret n rm) {x : Int} (hd : decode cc pc = .ok (.lneg, 1)) (kk : K_ X k j ws (pc + 1) lo (.long (jL (-x)) :: st)) : K_ X k j ws pc lo (.long (jL x) :: st) := fun H locs ls hP hD hS hl => lv_lneg C.e C.b hd (by rw [jL_neg]; exact kk H locs ls hP hD hS hl)
theorem k_idiv (C : Cx X cc own Ts ret n rm) {x y : Int} (hx : 0 ≤ x ∧ x < 2147483648) (hy : 0 < y ∧ y < 2147483648) (hd : decode cc pc = .ok (.idiv, 1)) (kk : K_ X k j ws (pc + 1) lo (.int (iI (x / y)) :: st)) : K_ X k j ws pc lo (.int (iI y) :: .int (iI x) :: st) := fun H locs ls hP hD hS hl => lv_idiv C.e C.b hd (iI_ne0 hy.1 hy.2) (by rw [iI_div hx.1 hx.2 hy.1 hy.2]; exact kk H locs ls hP hD hS hl)
theorem k_irem (C : Cx X cc own Ts ret n rm) {x y : Int} (hx : 0 ≤ x ∧ x < 2147483648) (hy : 0 < y ∧ y < 2147483648) (hd : decode cc pc = .ok (.irem, 1)) (kk : K_ X k j ws (pc + 1) lo (.int (iI (x % y)) :: st)) : K_ X k j ws pc lo (.int (iI y) :: .int (iI x) :: st) := fun H locs ls hP hD hS hl => lv_irem C.e C.b hd (iI_ne0 hy.1 hy.2) (by rw [iI_rem hx.1 hx.2 hy.1 hy.2]; exact kk H locs ls hP hD hS hl)
theorem k_ldiv (C : Cx X cc own Ts ret n rm) {x y : Int} (hx : 0 ≤ x ∧ x < 9223372036854775808) (hy : 0 < y ∧ y < 9223372036854775808) (hd : decode cc pc = .ok (.ldiv, 1)) (kk : K_ X k j ws (pc + 1) lo (.long (jL (x / y)) :: st)) : K_ X k j ws pc lo (.long (jL y) :: .long (jL x) :: st) := fun H locs ls hP hD hS hl => lv_ldiv C.e C.b hd (jL_ne0 hy.1 hy.2) (by rw [jL_div hx.1 hx.2 hy.1 hy.2]; exact kk H locs ls hP hD hS hl)
theorem k_lrem (C : Cx X cc own Ts ret n rm) {x y : Int} (hx : 0 ≤ x ∧ x < 9223372036854775808) (hy : 0 < y ∧ y < 9223372036854775808) (hd : decode cc pc = .ok (.lrem, 1)) (kk : K_ X k j ws (pc + 1) lo (.long (jL (x % y)) :: st)) : K_ X k j ws pc lo (.long (jL y) :: .long (jL x) :: st) := fun H locs ls hP hD hS hl => lv_lrem C.e C.b hd (jL_ne0 hy.1 hy.2) (by rw [jL_rem hx.1 hx.2 hy.1 hy.2]; exact kk H locs ls hP hD hS hl)
theorem k_i2l (C : Cx X cc own Ts ret n rm) {x : Int} (hx : -2147483648 ≤ x ∧ x < 2147483648) (hd : decode cc pc = .ok (.i2l, 1)) (kk : K_ X k j ws (pc + 1) lo (.long (jL x) :: st)) : K_ X k j ws pc lo (.int (iI x) :: st) := fun H locs ls hP hD hS hl => lv_i2l C.e C.b hd (iI_l hx.1 hx.2) (kk H locs ls hP hD hS hl)
theorem k_l2i (C : Cx X cc own Ts ret n rm) {x : Int} (hd : decode cc pc = .ok (.l2i, 1)) (kk : K_ X k j ws (pc + 1) lo (.int (iI x) :: st)) : K_ X k j ws pc lo (.long (jL x) :: st) := fun H locs ls hP hD hS hl => lv_l2i C.e C.b hd (jL_i x) (kk H locs ls hP hD hS hl)
theorem k_i2c (C : Cx X cc own Ts ret n rm) {x : Int} (z : Int) (hz : ((iI x).toUInt32 % 65536).toInt32 = iI z) (hd : decode cc pc = .ok (.i2c, 1)) (kk : K_ X k j ws (pc + 1) lo (.int (iI z) :: st)) : K_ X k j ws pc lo (.int (iI x) :: st) := fun H locs ls hP hD hS hl => lv_i2c C.e C.b hd hz (kk H locs ls hP hD hS hl)
theorem k_lcmp (C : Cx X cc own Ts ret n rm) {x y : Int} (hx : -9223372036854775808 ≤ x ∧ x < 9223372036854775808) (hy : -9223372036854775808 ≤ y ∧ y < 9223372036854775808) (hd : decode cc pc = .ok (.lcmp, 1)) (kk : ∀ z : Int, z = cmpI x y → (-1 ≤ z ∧ z ≤ 1 ∧ (z = 0 ↔ x = y) ∧ (z < 0 ↔ x < y) ∧ (0 < z ↔ y < x)) → K_ X k j ws (pc + 1) lo (.int (iI z) :: st)) : K_ X k j ws pc lo (.long (jL y) :: .long (jL x) :: st) := fun H locs ls hP hD hS hl => W.lcmp C.e C.b hd (by rw [jL_cmp hx.1 hx.2 hy.1 hy.2]; exact kk _ rfl (cmpI_rng x y) H locs ls hP hD hS hl)
theorem k_iand (C : Cx X cc own Ts ret n rm) {x y : Int} (z : Int) (hz : iI x &&& iI y = iI z) (hd : decode cc pc = .ok (.iand, 1)) (kk : K_ X k j ws (pc + 1) lo (.int (iI z) :: st)) : K_ X k j ws pc lo (.int (iI y) :: .int (iI x) :: st) := fun H locs ls hP hD hS hl => lv_iand C.e C.b hd (by rw [hz]; exact kk H locs ls hP hD hS hl)
theorem k_land (C : Cx X cc own Ts ret n rm) {x y : Int} (z : Int) (hz : jL x &&& jL y = jL z) (hd : decode cc pc = .ok (.land, 1)) (kk : K_ X k j ws (pc + 1) lo (.long (jL z) :: st)) : K_ X k j ws pc lo (.long (jL y) :: .long (jL x) :: st) := fun H locs ls hP hD hS hl => lv_land C.e C.b hd (by rw [hz]; exact kk H locs ls hP hD hS hl)
theorem k_lor (C : Cx X cc own Ts ret n rm) {x y : Int} (z : Int) (hz : jL x ||| jL y = jL z) (hd : decode cc pc = .ok (.lor, 1)) (kk : K_ X k j ws (pc + 1) lo (.long (jL z) :: st)) : K_ X k j ws pc lo (.long (jL y) :: .long (jL x) :: st) := fun H locs ls hP hD hS hl => lv_lor C.e C.b hd (by rw [hz]; exact kk H locs ls hP hD hS hl)
theorem k_lxor (C : Cx X cc own Ts ret n rm) {x y : Int} (z : Int) (hz : jL x ^^^ jL y = jL z) (hd : decode cc pc = .ok (.lxor, 1)) (kk : K_ X k j ws (pc + 1) lo (.long (jL z) :: st)) : K_ X k j ws pc lo (.long (jL y) :: .long (jL x) :: st) := fun H locs ls hP hD hS hl => lv_lxor C.e C.b hd (by rw [hz]; exact kk H locs ls hP hD hS hl)
theorem k_lushr (C : Cx X cc own Ts ret n rm) {x y : Int} (z : Int) (hz : ((jL x).toUInt64 >>> ((iI y).toInt64.toUInt64 &&& Int64.toUInt64 63)).toInt64 = jL z) (hd : decode cc pc = .ok (.lushr, 1)) (kk : K_ X k j ws (pc + 1) lo (.long (jL z) :: st)) : K_ X k j ws pc lo (.int (iI y) :: .long (jL x) :: st) := fun H locs ls hP hD hS hl => lv_lushr C.e C.b hd hz (kk H locs ls hP hD hS hl)
theorem k_lshl (C : Cx X cc own Ts ret n rm) {x y : Int} (z : Int) (hz : jL x <<< ((iI y).toInt64 &&& 63) = jL z) (hd : decode cc pc = .ok (.lshl, 1)) (kk : K_ X k j ws (pc + 1) lo (.long (jL z) :: st)) : K_ X k j ws pc lo (.int (iI y) :: .long (jL x) :: st) := fun H locs ls hP hD hS hl => lv_lshl C.e C.b hd hz (kk H locs ls hP hD hS hl)
theorem k_dup (C : Cx X cc own Ts ret n rm) {va : Value} (hd : decode cc pc = .ok (.dup, 1)) (h : va.category = 1) (kk : K_ X k j ws (pc + 1) lo (va :: va :: st)) : K_ X k j ws pc lo (va :: st) := fun H locs ls hP hD hS hl => lv_dup C.e C.b hd h (kk H locs ls hP hD hS hl)
theorem k_pop (C : Cx X cc own Ts ret n rm) {va : Value} (hd : decode cc pc = .ok (.pop, 1)) (h : va.category = 1) (kk : K_ X k j ws (pc + 1) lo st) : K_ X k j ws pc lo (va :: st) := fun H locs ls hP hD hS hl => lv_pop C.e C.b hd h (kk H locs ls hP hD hS hl)
theorem k_dup2 (C : Cx X cc own Ts ret n rm) {va vb : Value} (hd : decode cc pc = .ok (.dup2, 1)) (h : va.category = 1) (h' : vb.category = 1) (kk : K_ X k j ws (pc + 1) lo (va :: vb :: va :: vb :: st)) : K_ X k j ws pc lo (va :: vb :: st) := fun H locs ls hP hD hS hl => lv_dup2_11 C.e C.b hd h h' (kk H locs ls hP hD hS hl)
theorem k_dup_x1 (C : Cx X cc own Ts ret n rm) {va vb : Value} (hd : decode cc pc = .ok (.dup_x1, 1)) (h : va.category = 1) (h' : vb.category = 1) (kk : K_ X k j ws (pc + 1) lo (va :: vb :: va :: st)) : K_ X k j ws pc lo (va :: vb :: st) := fun H locs ls hP hD hS hl => lv_dup_x1 C.e C.b hd h h' (kk H locs ls hP hD hS hl)
theorem k_goto (C : Cx X cc own Ts ret n rm) {off : Int} (tgt : Nat) (hd : decode cc pc = .ok (.goto off, 3)) (ht : (pc : Int) + off = (tgt : Int)) (kk : K_ X k j ws tgt lo st) : K_ X k j ws pc lo st := fun H locs ls hP hD hS hl => lv_goto C.e C.b hd ht (kk H locs ls hP hD hS hl)
theorem k_icmp_lt (C : Cx X cc own Ts ret n rm) {a b off : Int} (tgt : Nat) (ha : -2147483648 ≤ a ∧ a < 2147483648) (hb : -2147483648 ≤ b ∧ b < 2147483648) (hd : decode cc pc = .ok (.if_icmp .lt off, 3)) (ht : (pc : Int) + off = (tgt : Int)) (kt : a < b → K_ X k j ws tgt lo st) (kf : ¬ (a < b) → K_ X k j ws (pc + 3) lo st) : K_ X k j ws pc lo (.int (iI b) :: .int (iI a) :: st) :=
  have a1 := ha.1; have a2 := ha.2; have b1 := hb.1; have b2 := hb.2
  fun H locs ls hP hD hS hl => lv_icmp_lt C.e C.b hd ht (fun h => kt ((iI_lt a1 a2 b1 b2).mp h) H locs ls hP hD hS hl) (fun h => kf (fun z => h ((iI_lt a1 a2 b1 b2).mpr z)) H locs ls hP hD hS hl)
theorem k_if_lt (C : Cx X cc own Ts ret n rm) {a off : Int} (tgt : Nat) (ha : -2147483648 ≤ a ∧ a < 2147483648) (hd : decode cc pc = .ok (.ifCond .lt off, 3)) (ht : (pc : Int) + off = (tgt : Int)) (kt : a < 0 → K_ X k j ws tgt lo st) (kf : ¬ (a < 0) → K_ X k j ws (pc + 3) lo st) : K_ X k j ws pc lo (.int (iI a) :: st) :=
  have a1 := ha.1; have a2 := ha.2; have b1 : (-2147483648 : Int) ≤ 0 := (by decide); have b2 : (0 : Int) < 2147483648 := (by decide)
  fun H locs ls hP hD hS hl => lv_if_lt C.e C.b hd ht (fun h => kt ((iI_lt (b := 0) a1 a2 b1 b2).mp h) H locs ls hP hD hS hl) (fun h => kf (fun z => h ((iI_lt (b := 0) a1 a2 b1 b2).mpr z)) H locs ls hP hD hS hl)
theorem k_icmp_ge (C : Cx X cc own Ts ret n rm) {a b off : Int} (tgt : Nat) (ha : -2147483648 ≤ a ∧ a < 2147483648) (hb : -2147483648 ≤ b ∧ b < 2147483648) (hd : decode cc pc = .ok (.if_icmp .ge off, 3)) (ht : (pc : Int) + off = (tgt : Int)) (kt : b ≤ a → K_ X k j ws tgt lo st) (kf : ¬ (b ≤ a) → K_ X k j ws (pc + 3) lo st) : K_ X k j ws pc lo (.int (iI b) :: .int (iI a) :: st) :=
  have a1 := ha.1; have a2 := ha.2; have b1 := hb.1; have b2 := hb.2
  fun H locs ls hP hD hS hl => lv_icmp_ge C.e C.b hd ht (fun h => kt ((iI_le b1 b2 a1 a2).mp h) H locs ls hP hD hS hl) (fun h => kf (fun z => h ((iI_le b1 b2 a1 a2).mpr z)) H locs ls hP hD hS hl)
theorem k_if_ge (C : Cx X cc own Ts ret n rm) {a off : Int} (tgt : Nat) (ha : -2147483648 ≤ a ∧ a < 2147483648) (hd : decode cc pc = .ok (.ifCond .ge off, 3)) (ht : (pc : Int) + off = (tgt : Int)) (kt : 0 ≤ a → K_ X k j ws tgt lo st) (kf : ¬ (0 ≤ a) → K_ X k j ws (pc + 3) lo st) : K_ X k j ws pc lo (.int (iI a) :: st) :=
  have a1 := ha.1; have a2 := ha.2; have b1 : (-2147483648 : Int) ≤ 0 := (by decide); have b2 : (0 : Int) < 2147483648 := (by decide)
  fun H locs ls hP hD hS hl => lv_if_ge C.e C.b hd ht (fun h => kt ((iI_le (a := 0) b1 b2 a1 a2).mp h) H locs ls hP hD hS hl) (fun h => kf (fun z => h ((iI_le (a := 0) b1 b2 a1 a2).mpr z)) H locs ls hP hD hS hl)
theorem k_icmp_gt (C : Cx X cc own Ts ret n rm) {a b off : Int} (tgt : Nat) (ha : -2147483648 ≤ a ∧ a < 2147483648) (hb : -2147483648 ≤ b ∧ b < 2147483648) (hd : decode cc pc = .ok (.if_icmp .gt off, 3)) (ht : (pc : Int) + off = (tgt : Int)) (kt : b < a → K_ X k j ws tgt lo st) (kf : ¬ (b < a) → K_ X k j ws (pc + 3) lo st) : K_ X k j ws pc lo (.int (iI b) :: .int (iI a) :: st) :=
  have a1 := ha.1; have a2 := ha.2; have b1 := hb.1; have b2 := hb.2
  fun H locs ls hP hD hS hl => lv_icmp_gt C.e C.b hd ht (fun h => kt ((iI_lt b1 b2 a1 a2).mp h) H locs ls hP hD hS hl) (fun h => kf (fun z => h ((iI_lt b1 b2 a1 a2).mpr z)) H locs ls hP hD hS hl)
theorem k_if_gt (C : Cx X cc own Ts ret n rm) {a off : Int} (tgt : Nat) (ha : -2147483648 ≤ a ∧ a < 2147483648) (hd : decode cc pc = .ok (.ifCond .gt off, 3)) (ht : (pc : Int) + off = (tgt : Int)) (kt : 0 < a → K_ X k j ws tgt lo st) (kf : ¬ (0 < a) → K_ X k j ws (pc + 3) lo st) : K_ X k j ws pc lo (.int (iI a) :: st) :=
  have a1 := ha.1; have a2 := ha.2; have b1 : (-2147483648 : Int) ≤ 0 := (by decide); have b2 : (0 : Int) < 2147483648 := (by decide)
  fun H locs ls hP hD hS hl => lv_if_gt C.e C.b hd ht (fun h => kt ((iI_lt (a := 0) b1 b2 a1 a2).mp h) H locs ls hP hD hS hl) (fun h => kf (fun z => h ((iI_lt (a := 0) b1 b2 a1 a2).mpr z)) H locs ls hP hD hS hl)
theorem k_icmp_le (C : Cx X cc own Ts ret n rm) {a b off : Int} (tgt : Nat) (ha : -2147483648 ≤ a ∧ a < 2147483648) (hb : -2147483648 ≤ b ∧ b < 2147483648) (hd : decode cc pc = .ok (.if_icmp .le off, 3)) (ht : (pc : Int) + off = (tgt : Int)) (kt : a ≤ b → K_ X k j ws tgt lo st) (kf : ¬ (a ≤ b) → K_ X k j ws (pc + 3) lo st) : K_ X k j ws pc lo (.int (iI b) :: .int (iI a) :: st) :=
  have a1 := ha.1; have a2 := ha.2; have b1 := hb.1; have b2 := hb.2
  fun H locs ls hP hD hS hl => lv_icmp_le C.e C.b hd ht (fun h => kt ((iI_le a1 a2 b1 b2).mp h) H locs ls hP hD hS hl) (fun h => kf (fun z => h ((iI_le a1 a2 b1 b2).mpr z)) H locs ls hP hD hS hl)
theorem k_if_le (C : Cx X cc own Ts ret n rm) {a off : Int} (tgt : Nat) (ha : -2147483648 ≤ a ∧ a < 2147483648) (hd : decode cc pc = .ok (.ifCond .le off, 3)) (ht : (pc : Int) + off = (tgt : Int)) (kt : a ≤ 0 → K_ X k j ws tgt lo st) (kf : ¬ (a ≤ 0) → K_ X k j ws (pc + 3) lo st) : K_ X k j ws pc lo (.int (iI a) :: st) :=
  have a1 := ha.1; have a2 := ha.2; have b1 : (-2147483648 : Int) ≤ 0 := (by decide); have b2 : (0 : Int) < 2147483648 := (by decide)
  fun H locs ls hP hD hS hl => lv_if_le C.e C.b hd ht (fun h => kt ((iI_le (b := 0) a1 a2 b1 b2).mp h) H locs ls hP hD hS hl) (fun h => kf (fun z => h ((iI_le (b := 0) a1 a2 b1 b2).mpr z)) H locs ls hP hD hS hl)
theorem k_icmp_eq (C : Cx X cc own Ts ret n rm) {a b off : Int} (tgt : Nat) (ha : -2147483648 ≤ a ∧ a < 2147483648) (hb : -2147483648 ≤ b ∧ b < 2147483648) (hd : decode cc pc = .ok (.if_icmp .eq off, 3)) (ht : (pc : Int) + off = (tgt : Int)) (kt : a = b → K_ X k j ws tgt lo st) (kf : ¬ (a = b) → K_ X k j ws (pc + 3) lo st) : K_ X k j ws pc lo (.int (iI b) :: .int (iI a) :: st) :=
  have a1 := ha.1; have a2 := ha.2; have b1 := hb.1; have b2 := hb.2
  fun H locs ls hP hD hS hl => lv_icmp_eq C.e C.b hd ht (fun h => kt ((iI_eq a1 a2 b1 b2).mp h) H locs ls hP hD hS hl) (fun h => kf (fun z => h ((iI_eq a1 a2 b1 b2).mpr z)) H locs ls hP hD hS hl)
theorem k_if_eq (C : Cx X cc own Ts ret n rm) {a off : Int} (tgt : Nat) (ha : -2147483648 ≤ a ∧ a < 2147483648) (hd : decode cc pc = .ok (.ifCond .eq off, 3)) (ht : (pc : Int) + off = (tgt : Int)) (kt : a = 0 → K_ X k j ws tgt lo st) (kf : ¬ (a = 0) → K_ X k j ws (pc + 3) lo st) : K_ X k j ws pc lo (.int (iI a) :: st) :=
  have a1 := ha.1; have a2 := ha.2; have b1 : (-2147483648 : Int) ≤ 0 := (by decide); have b2 : (0 : Int) < 2147483648 := (by decide)
  fun H locs ls hP hD hS hl => lv_if_eq C.e C.b hd ht (fun h => kt ((iI_eq (b := 0) a1 a2 b1 b2).mp h) H locs ls hP hD hS hl) (fun h => kf (fun z => h ((iI_eq (b := 0) a1 a2 b1 b2).mpr z)) H locs ls hP hD hS hl)
theorem k_icmp_ne (C : Cx X cc own Ts ret n rm) {a b off : Int} (tgt : Nat) (ha : -2147483648 ≤ a ∧ a < 2147483648) (hb : -2147483648 ≤ b ∧ b < 2147483648) (hd : decode cc pc = .ok (.if_icmp .ne off, 3)) (ht : (pc : Int) + off = (tgt : Int)) (kt : ¬ (a = b) → K_ X k j ws tgt lo st) (kf : a = b → K_ X k j ws (pc + 3) lo st) : K_ X k j ws pc lo (.int (iI b) :: .int (iI a) :: st) :=
  fun H locs ls hP hD hS hl => lv_icmp_ne C.e C.b hd ht (fun h => kt (fun z => h ((iI_eq ha.1 ha.2 hb.1 hb.2).mpr z)) H locs ls hP hD hS hl) (fun h => kf ((iI_eq ha.1 ha.2 hb.1 hb.2).mp h) H locs ls hP hD hS hl)
theorem k_if_ne (C : Cx X cc own Ts ret n rm) {a off : Int} (tgt : Nat) (ha : -2147483648 ≤ a ∧ a < 2147483648) (hd : decode cc pc = .ok (.ifCond .ne off, 3)) (ht : (pc : Int) + off = (tgt : Int)) (kt : ¬ (a = 0) → K_ X k j ws tgt lo st) (kf : a = 0 → K_ X k j ws (pc + 3) lo st) : K_ X k j ws pc lo (.int (iI a) :: st) :=
  fun H locs ls hP hD hS hl => lv_if_ne C.e C.b hd ht (fun h => kt (fun z => h ((iI_eq (b := 0) ha.1 ha.2 (by decide) (by decide)).mpr z)) H locs ls hP hD hS hl) (fun h => kf ((iI_eq (b := 0) ha.1 ha.2 (by decide) (by decide)).mp h) H locs ls hP hD hS hl)
theorem k_tabIn (C : Cx X cc own Ts ret n rm) {dflt lo1 hi1 : Int} {offs : Array Int} {len : Nat} {x off : Int} (tgt : Nat) (hx : -2147483648 ≤ x ∧ x < 2147483648) (hd : decode cc pc = .ok (.tableswitch dflt lo1 hi1 offs, len)) (h1 : ¬ x < lo1) (h2 : ¬ hi1 < x) (ho : offs[(x - lo1).toNat]? = some off) (ht : (pc : Int) + off = (tgt : Int)) (kk : K_ X k j ws tgt lo st) : K_ X k j ws pc lo (.int (iI x) :: st) :=
  fun H locs ls hP hD hS hl => lv_tableIn C.e C.b hd (by rw [iI_toInt hx.1 hx.2]; exact h1) (by rw [iI_toInt hx.1 hx.2]; exact h2) (by rw [iI_toInt hx.1 hx.2]; exact ho) ht (kk H locs ls hP hD hS hl)
theorem k_tabOut (C : Cx X cc own Ts ret n rm) {dflt lo1 hi1 : Int} {offs : Array Int} {len : Nat} {x : Int} (tgt : Nat) (hx : -2147483648 ≤ x ∧ x < 2147483648) (hd : decode cc pc = .ok (.tableswitch dflt lo1 hi1 offs, len)) (h1 : x < lo1 ∨ hi1 < x) (ht : (pc : Int) + dflt = (tgt : Int)) (kk : K_ X k j ws tgt lo st) : K_ X k j ws pc lo (.int (iI x) :: st) :=
  fun H locs ls hP hD hS hl => lv_tableOut C.e C.b hd (by rw [iI_toInt hx.1 hx.2]; exact h1) ht (kk H locs ls hP hD hS hl)
theorem k_lookup (C : Cx X cc own Ts ret n rm) {dflt : Int} {ps : Array (Int × Int)} {len : Nat} {x off : Int} (tgt : Nat) (hx : -2147483648 ≤ x ∧ x < 2147483648) (hd : decode cc pc = .ok (.lookupswitch dflt ps, len)) (hp : (ps.toList.zip (ps.toList.drop 1)).all (fun (a, next) => a.1 < next.1) = true) (ho : Op.lookupswitch.offset ps.toList dflt x = off) (ht : (pc : Int) + off = (tgt : Int)) (kk : K_ X k j ws tgt lo st) : K_ X k j ws pc lo (.int (iI x) :: st) :=
  fun H locs ls hP hD hS hl => lv_lookup C.e C.b hd hp (by rw [iI_toInt hx.1 hx.2]; exact ho) ht (kk H locs ls hP hD hS hl)
theorem k_get (C : Cx X cc own Ts ret n rm) {ref Cn : String} {T : u_T} {N ci ix a : Nat} (hin : ∀ w ∈ u_ws Cn T N, w ∈ Ts) (q0 : Nat) {fs : List Value} (he : ws[q0]? = some (a, .inr (ci, fs))) (hc : vwCl[ci]? = some (Cn, T, N)) (f : Nat) (hf : f < N) (iw : Nat) (hw : Ts[iw]? = some (.fieldLink own ix ref (T f).2.1 (T f).2.2.1)) (hr : (T f).1 = ref) {v : Value} (hv : fs[f]? = some v) (hd : decode cc pc = .ok (.getfield ix, 3)) (kk : K_ X k j ws (pc + 3) lo (v :: st)) : K_ X k j ws pc lo (.ref a :: st) :=
  fun H locs ls hP hD hS hl => va_get C.e C.b C.w hin C.o C.K hP q0 he hc f hf (C.at iw hw) (fun x h => by rw [← hr]; exact h) hv hd (kk H locs ls hP hD hS hl)
theorem k_put (C : Cx X cc own Ts ret n rm) {ref Cn : String} {T : u_T} {N ci ix a : Nat} (hin : ∀ w ∈ u_ws Cn T N, w ∈ Ts) (ty0 : Nat → FieldType) (hty : ∀ k, k < N → parseFieldDescriptor (T k).2.2.1 = some (ty0 k)) (hnm : ∀ a, a < N → ∀ b, b < N → a ≠ b → (T a).2.1 ≠ (T b).2.1) (q0 : Nat) {fs : List Value} (he : ws[q0]? = some (a, .inr (ci, fs))) (hc : vwCl[ci]? = some (Cn, T, N)) (f : Nat) (hf : f < N) (iw : Nat) (hw : Ts[iw]? = some (.fieldLink own ix ref (T f).2.1 (T f).2.2.1)) (hr : (T f).1 = ref) (hfin : (T f).2.2.2 = false) {v : Value} (hn : narrow (ty0 f) v = v) (hfit : fits (ty0 f) v = true) (hl2 : f < fs.length) (ws2 : va_W) (h2 : ws.set q0 (a, .inr (ci, fs.set f v)) = ws2) (hd : decode cc pc = .ok (.putfield ix, 3)) (kk : K_ X k j ws2 (pc + 3) lo st) : K_ X k j ws pc lo (v :: .ref a :: st) :=
  fun H locs ls hP hD hS hl => va_put C.e C.b C.w hin ty0 hty hnm C.o C.K hP hD hS q0 he hc f hf (C.at iw hw) (fun x h => by rw [← hr]; exact h) hfin (hty f hf) hn hfit hl2 hd (fun H1 locs1 hP1 hD1 hS1 => kk H1 locs1 ls (by rw [← h2]; exact hP1) (by rw [← h2]; exact hD1) hS1 hl)
theorem k_putF (C : Cx X cc own Ts ret n rm) {ref Cn : String} {T : u_T} {N ci ix a : Nat} (hin : ∀ w ∈ u_ws Cn T N, w ∈ Ts) (ty0 : Nat → FieldType) (hty : ∀ k, k < N → parseFieldDescriptor (T k).2.2.1 = some (ty0 k)) (hnm : ∀ a, a < N → ∀ b, b < N → a ≠ b → (T a).2.1 ≠ (T b).2.1) (q0 : Nat) {fs : List Value} (he : ws[q0]? = some (a, .inr (ci, fs))) (hc : vwCl[ci]? = some (Cn, T, N)) (f : Nat) (hf : f < N) (iw : Nat) (hw : Ts[iw]? = some (.fieldLink own ix ref (T f).2.1 (T f).2.2.1)) (hr : (T f).1 = ref) (hfin : (T f).2.2.2 = true) (hin2 : (x_M X).name = "<init>") (hdc : (T f).1 = own) {v : Value} (hn : narrow (ty0 f) v = v) (hfit : fits (ty0 f) v = true) (hl2 : f < fs.length) (ws2 : va_W) (h2 : ws.set q0 (a, .inr (ci, fs.set f v)) = ws2) (hd : decode cc pc = .ok (.putfield ix, 3)) (kk : K_ X k j ws2 (pc + 3) lo st) : K_ X k j ws pc lo (v :: .ref a :: st) :=
  fun H locs ls hP hD hS hl => va_putF C.e C.b C.w hin ty0 hty hnm C.o C.K hP hD hS q0 he hc f hf (C.at iw hw) (fun x h => by rw [← hr]; exact h) hfin hin2 hdc (hty f hf) hn hfit hl2 hd (fun H1 locs1 hP1 hD1 hS1 => kk H1 locs1 ls (by rw [← h2]; exact hP1) (by rw [← h2]; exact hD1) hS1 hl)
theorem k_getN (C : Cx X cc own Ts ret n rm) {ref Cn host : String} {T : u_T} {N ci ix a : Nat} (hin : ∀ w ∈ u_ws Cn T N, w ∈ Ts) (q0 : Nat) {fs : List Value} (he : ws[q0]? = some (a, .inr (ci, fs))) (hc : vwCl[ci]? = some (Cn, T, N)) (f : Nat) (hf : f < N) (iw : Nat) (hw : nestF[iw]? = some (own, ix, ref, (T f).2.1, (T f).2.2.1, host)) (hr : (T f).1 = ref) {v : Value} (hv : fs[f]? = some v) (hd : decode cc pc = .ok (.getfield ix, 3)) (kk : K_ X k j ws (pc + 3) lo (v :: st)) : K_ X k j ws pc lo (.ref a :: st) :=
  fun H locs ls hP hD hS hl => va_getN C.e C.b C.w hin C.o C.K hP q0 he hc f hf ((C.nF iw hw).use rfl) (fun x h => by rw [← hr]; exact h) hv hd (kk H locs ls hP hD hS hl)
theorem k_putN (C : Cx X cc own Ts ret n rm) {ref Cn host : String} {T : u_T} {N ci ix a : Nat} (hin : ∀ w ∈ u_ws Cn T N, w ∈ Ts) (ty0 : Nat → FieldType) (hty : ∀ k, k < N → parseFieldDescriptor (T k).2.2.1 = some (ty0 k)) (hnm : ∀ a, a < N → ∀ b, b < N → a ≠ b → (T a).2.1 ≠ (T b).2.1) (q0 : Nat) {fs : List Value} (he : ws[q0]? = some (a, .inr (ci, fs))) (hc : vwCl[ci]? = some (Cn, T, N)) (f : Nat) (hf : f < N) (iw : Nat) (hw : nestF[iw]? = some (own, ix, ref, (T f).2.1, (T f).2.2.1, host)) (hr : (T f).1 = ref) (hfin : (T f).2.2.2 = false) {v : Value} (hn : narrow (ty0 f) v = v) (hfit : fits (ty0 f) v = true) (hl2 : f < fs.length) (ws2 : va_W) (h2 : ws.set q0 (a, .inr (ci, fs.set f v)) = ws2) (hd : decode cc pc = .ok (.putfield ix, 3)) (kk : K_ X k j ws2 (pc + 3) lo st) : K_ X k j ws pc lo (v :: .ref a :: st) :=
  fun H locs ls hP hD hS hl => va_putN C.e C.b C.w hin ty0 hty hnm C.o C.K hP hD hS q0 he hc f hf ((C.nF iw hw).use rfl) (fun x h => by rw [← hr]; exact h) hfin (hty f hf) hn hfit hl2 hd (fun H1 locs1 hP1 hD1 hS1 => kk H1 locs1 ls (by rw [← h2]; exact hP1) (by rw [← h2]; exact hD1) hS1 hl)
theorem k_getsN (C : Cx X cc own Ts ret n rm) {Cn nm d ref host : String} {v : Value} {ix : Nat} (hZ : va_Z Cn nm d v (x_A X) (x_s X) (x_s X).heap) (iw : Nat) (hw : nestF[iw]? = some (own, ix, ref, nm, d, host)) (hr : Cn = ref) (hd : decode cc pc = .ok (.getstatic ix, 3)) (kk : K_ X k j ws (pc + 3) lo (v :: st)) : K_ X k j ws pc lo st :=
  fun H locs ls hP hD hS hl => va_getsN C.e C.b hZ hS C.o ((C.nF iw hw).use rfl) (fun x h => by rw [← hr]; exact h) hd (kk H locs ls hP hD hS hl)
theorem k_iald (C : Cx X cc own Ts ret n rm) {a N : Nat} {f : Nat → Int} {i : Int} (q0 : Nat) (ha : ws[q0]? = some (a, .inl (g_I (x_G X), N, .inl (aI f)))) (h0 : 0 ≤ i ∧ i < N) (hN : N < 2147483648) (hd : decode cc pc = .ok (.iaload, 1)) (kk : K_ X k j ws (pc + 1) lo (.int (iI (f i.toNat)) :: st)) : K_ X k j ws pc lo (.int (iI i) :: .ref a :: st) :=
  fun H locs ls hP hD hS hl => va_iald C.e C.b C.K hP q0 0 ha rfl (iI_in h0.1 h0.2 hN) hd (by rw [iI_clamp (by omega) (by omega)]; exact kk H locs ls hP hD hS hl)
theorem k_cald (C : Cx X cc own Ts ret n rm) {a N : Nat} {f : Nat → Int} {i : Int} (q0 : Nat) (ha : ws[q0]? = some (a, .inl (g_C (x_G X), N, .inl (aI f)))) (h0 : 0 ≤ i ∧ i < N) (hN : N < 2147483648) (hd : decode cc pc = .ok (.caload, 1)) (kk : K_ X k j ws (pc + 1) lo (.int (iI (f i.toNat)) :: st)) : K_ X k j ws pc lo (.int (iI i) :: .ref a :: st) :=
  fun H locs ls hP hD hS hl => va_cald C.e C.b C.K hP q0 2 ha rfl (iI_in h0.1 h0.2 hN) hd (by rw [iI_clamp (by omega) (by omega)]; exact kk H locs ls hP hD hS hl)
theorem k_zald (C : Cx X cc own Ts ret n rm) {a N : Nat} {f : Nat → Int} {i : Int} (q0 : Nat) (ha : ws[q0]? = some (a, .inl (g_Z (x_G X), N, .inl (aI f)))) (h0 : 0 ≤ i ∧ i < N) (hN : N < 2147483648) (hd : decode cc pc = .ok (.baload, 1)) (kk : K_ X k j ws (pc + 1) lo (.int (iI (f i.toNat)) :: st)) : K_ X k j ws pc lo (.int (iI i) :: .ref a :: st) :=
  fun H locs ls hP hD hS hl => va_zald C.e C.b C.K hP q0 3 ha rfl (iI_in h0.1 h0.2 hN) hd (by rw [iI_clamp (by omega) (by omega)]; exact kk H locs ls hP hD hS hl)
theorem k_lald (C : Cx X cc own Ts ret n rm) {a N : Nat} {f : Nat → Int} {i : Int} (q0 : Nat) (ha : ws[q0]? = some (a, .inl (g_J (x_G X), N, .inr (.inl (aL f))))) (h0 : 0 ≤ i ∧ i < N) (hN : N < 2147483648) (hd : decode cc pc = .ok (.laload, 1)) (kk : K_ X k j ws (pc + 1) lo (.long (jL (f i.toNat)) :: st)) : K_ X k j ws pc lo (.int (iI i) :: .ref a :: st) :=
  fun H locs ls hP hD hS hl => va_lald C.e C.b C.K hP q0 1 ha rfl (iI_in h0.1 h0.2 hN) hd (by rw [iI_clamp (by omega) (by omega)]; exact kk H locs ls hP hD hS hl)
theorem k_iast (C : Cx X cc own Ts ret n rm) {a N : Nat} {f : Nat → Int} {i x : Int} (q0 : Nat) (ha : ws[q0]? = some (a, .inl (g_I (x_G X), N, .inl (aI f)))) (h0 : 0 ≤ i ∧ i < N) (hN : N < 2147483648) (ws2 : (Nat → Int) → va_W) (h2 : ∀ g, ws.set q0 (a, .inl (g_I (x_G X), N, .inl (aI g))) = ws2 g) (hd : decode cc pc = .ok (.iastore, 1)) (kk : ∀ g : Nat → Int, g = upI f i.toNat x → K_ X k j (ws2 g) (pc + 1) lo st) : K_ X k j ws pc lo (.int (iI x) :: .int (iI i) :: .ref a :: st) :=
  fun H locs ls hP hD hS hl => va_iast C.e C.b C.K hP hD hS q0 0 ha rfl (iI_in h0.1 h0.2 hN) hd (fun H1 locs1 hP1 hD1 hS1 => by
    rw [iI_clamp (by omega) (by omega), aI_upd, h2] at hP1 hD1
    exact kk _ rfl H1 locs1 ls hP1 hD1 hS1 hl)
theorem k_cast (C : Cx X cc own Ts ret n rm) {a N : Nat} {f : Nat → Int} {i x : Int} (q0 : Nat) (ha : ws[q0]? = some (a, .inl (g_C (x_G X), N, .inl (aI f)))) (h0 : 0 ≤ i ∧ i < N) (hN : N < 2147483648) (hx : vp_nar .char (iI x) = iI x) (ws2 : (Nat → Int) → va_W) (h2 : ∀ g, ws.set q0 (a, .inl (g_C (x_G X), N, .inl (aI g))) = ws2 g) (hd : decode cc pc = .ok (.castore, 1)) (kk : ∀ g : Nat → Int, g = upI f i.toNat x → K_ X k j (ws2 g) (pc + 1) lo st) : K_ X k j ws pc lo (.int (iI x) :: .int (iI i) :: .ref a :: st) :=
  fun H locs ls hP hD hS hl => va_cast C.e C.b C.K hP hD hS q0 2 ha rfl (iI_in h0.1 h0.2 hN) hd (fun H1 locs1 hP1 hD1 hS1 => by
    rw [iI_clamp (by omega) (by omega), hx, aI_upd, h2] at hP1 hD1
    exact kk _ rfl H1 locs1 ls hP1 hD1 hS1 hl)
theorem k_zast (C : Cx X cc own Ts ret n rm) {a N : Nat} {f : Nat → Int} {i x : Int} (q0 : Nat) (ha : ws[q0]? = some (a, .inl (g_Z (x_G X), N, .inl (aI f)))) (h0 : 0 ≤ i ∧ i < N) (hN : N < 2147483648) (hx : vp_nar .boolean (iI x) = iI x) (ws2 : (Nat → Int) → va_W) (h2 : ∀ g, ws.set q0 (a, .inl (g_Z (x_G X), N, .inl (aI g))) = ws2 g) (hd : decode cc pc = .ok (.bastore, 1)) (kk : ∀ g : Nat → Int, g = upI f i.toNat x → K_ X k j (ws2 g) (pc + 1) lo st) : K_ X k j ws pc lo (.int (iI x) :: .int (iI i) :: .ref a :: st) :=
  fun H locs ls hP hD hS hl => va_zast C.e C.b C.K hP hD hS q0 3 ha rfl (iI_in h0.1 h0.2 hN) hd (fun H1 locs1 hP1 hD1 hS1 => by
    rw [iI_clamp (by omega) (by omega), hx, aI_upd, h2] at hP1 hD1
    exact kk _ rfl H1 locs1 ls hP1 hD1 hS1 hl)
theorem k_last (C : Cx X cc own Ts ret n rm) {a N : Nat} {f : Nat → Int} {i x : Int} (q0 : Nat) (ha : ws[q0]? = some (a, .inl (g_J (x_G X), N, .inr (.inl (aL f))))) (h0 : 0 ≤ i ∧ i < N) (hN : N < 2147483648) (ws2 : (Nat → Int) → va_W) (h2 : ∀ g, ws.set q0 (a, .inl (g_J (x_G X), N, .inr (.inl (aL g)))) = ws2 g) (hd : decode cc pc = .ok (.lastore, 1)) (kk : ∀ g : Nat → Int, g = upI f i.toNat x → K_ X k j (ws2 g) (pc + 1) lo st) : K_ X k j ws pc lo (.long (jL x) :: .int (iI i) :: .ref a :: st) :=
  fun H locs ls hP hD hS hl => va_last C.e C.b C.K hP hD hS q0 1 ha rfl (iI_in h0.1 h0.2 hN) hd (fun H1 locs1 hP1 hD1 hS1 => by
    rw [iI_clamp (by omega) (by omega), aL_upd, h2] at hP1 hD1
    exact kk _ rfl H1 locs1 ls hP1 hD1 hS1 hl)
theorem k_alen (C : Cx X cc own Ts ret n rm) {a : Nat} {cA : ClassId} {y : vp_A} (q0 t0 : Nat) {ty : FieldType} (ha : ws[q0]? = some (a, .inl (cA, y))) (ht : (g_tys (x_G X))[t0]? = some (cA, ty)) (z : Int) (hz : (y.1 : Int) = z) (hd : decode cc pc = .ok (.arraylength, 1)) (kk : K_ X k j ws (pc + 1) lo (.int (iI z) :: st)) : K_ X k j ws pc lo (.ref a :: st) :=
  fun H locs ls hP hD hS hl => va_alen C.e C.b C.K hP q0 t0 ha ht (by rw [← hz]; exact nI_iI y.1) hd (kk H locs ls hP hD hS hl)
theorem k_gets (C : Cx X cc own Ts ret n rm) {Cn nm d ref : String} {v : Value} {ix : Nat} (hZ : va_Z Cn nm d v (x_A X) (x_s X) (x_s X).heap) (iw : Nat) (hw : Ts[iw]? = some (.fieldLink own ix ref nm d)) (hr : Cn = ref) (hd : decode cc pc = .ok (.getstatic ix, 3)) (kk : K_ X k j ws (pc + 3) lo (v :: st)) : K_ X k j ws pc lo st :=
  fun H locs ls hP hD hS hl => va_gets C.e C.b hZ hS C.o (C.at iw hw) (fun x h => by rw [← hr]; exact h) hd (kk H locs ls hP hD hS hl)
theorem k_ti (C : Cx X cc own Ts ret n rm) {t N : Nat} {f : Nat → Int} {i : Int} (hT : va_T .int t N (fun q => .int (iI (f q))) (x_A X) (x_s X) (x_s X).heap) (h0 : 0 ≤ i ∧ i < N) (hN : N < 2147483648) (hd : decode cc pc = .ok (.iaload, 1)) (kk : K_ X k j ws (pc + 1) lo (.int (iI (f i.toNat)) :: st)) : K_ X k j ws pc lo (.int (iI i) :: .ref t :: st) :=
  fun H locs ls hP hD hS hl => va_ti C.e C.b hT hS (iI_in h0.1 h0.2 hN) (by rw [iI_clamp (by omega) (by omega)]) hd (kk H locs ls hP hD hS hl)
theorem k_tl (C : Cx X cc own Ts ret n rm) {t N : Nat} {f : Nat → Int} {i : Int} (hT : va_T .long t N (fun q => .long (jL (f q))) (x_A X) (x_s X) (x_s X).heap) (h0 : 0 ≤ i ∧ i < N) (hN : N < 2147483648) (hd : decode cc pc = .ok (.laload, 1)) (kk : K_ X k j ws (pc + 1) lo (.long (jL (f i.toNat)) :: st)) : K_ X k j ws pc lo (.int (iI i) :: .ref t :: st) :=
  fun H locs ls hP hD hS hl => va_tl C.e C.b hT hS (iI_in h0.1 h0.2 hN) (by rw [iI_clamp (by omega) (by omega)]) hd (kk H locs ls hP hD hS hl)
theorem k_tlen (C : Cx X cc own Ts ret n rm) {ty : FieldType} {t N : Nat} {f : Nat → Value} (hT : va_T ty t N f (x_A X) (x_s X) (x_s X).heap) (hd : decode cc pc = .ok (.arraylength, 1)) (kk : K_ X k j ws (pc + 1) lo (.int (iI (N : Int)) :: st)) : K_ X k j ws pc lo (.ref t :: st) :=
  fun H locs ls hP hD hS hl => va_tlen C.e C.b hT hS (nI_iI N) hd (kk H locs ls hP hD hS hl)
theorem k_iret {S : Type} {ok : S → Prop} {rv : S → Option Value} {w1 : S → va_W} (C : Cx X cc own Ts (some .int) n rm) (hR : Ret X ok rv w1) {z : Int} (u : S) (hu : rv u = some (.int (iI z))) (ho : ok u) (hw : w1 u = ws) (hk : k ≤ rm.cells) (hj : j ≤ rm.slots) (hd : decode cc pc = .ok (.ireturn, 1)) : K_ X k j ws pc lo [.int (iI z)] :=
  fun H locs ls hP hD hS hl => hR H locs k j _ (by rw [C.R]; exact hk) (by rw [C.R]; exact hj) (W.iret C.e C.b (by rw [C.r]) (fun t ht hW => ⟨⟨u, by rw [hu], ho, by rw [ht, hw]; exact hP, by rw [hw]; exact hD⟩, hS.F ht⟩) hS.2.2 hd C.l)
theorem k_lret {S : Type} {ok : S → Prop} {rv : S → Option Value} {w1 : S → va_W} (C : Cx X cc own Ts (some .long) n rm) (hR : Ret X ok rv w1) {z : Int} (u : S) (hu : rv u = some (.long (jL z))) (ho : ok u) (hw : w1 u = ws) (hk : k ≤ rm.cells) (hj : j ≤ rm.slots) (hd : decode cc pc = .ok (.lreturn, 1)) : K_ X k j ws pc lo [.long (jL z)] :=
  fun H locs ls hP hD hS hl => hR H locs k j _ (by rw [C.R]; exact hk) (by rw [C.R]; exact hj) (W.lret C.e C.b (by rw [C.r]) (fun t ht hW => ⟨⟨u, by rw [hu], ho, by rw [ht, hw]; exact hP, by rw [hw]; exact hD⟩, hS.F ht⟩) hS.2.2 hd C.l)
theorem k_zret {S : Type} {ok : S → Prop} {rv : S → Option Value} {w1 : S → va_W} (C : Cx X cc own Ts (some .boolean) n rm) (hR : Ret X ok rv w1) {z : Int} (hz : z = 0 ∨ z = 1) (u : S) (hu : rv u = some (.int (iI z))) (ho : ok u) (hw : w1 u = ws) (hk : k ≤ rm.cells) (hj : j ≤ rm.slots) (hd : decode cc pc = .ok (.ireturn, 1)) : K_ X k j ws pc lo [.int (iI z)] :=
  fun H locs ls hP hD hS hl => hR H locs k j _ (by rw [C.R]; exact hk) (by rw [C.R]; exact hj) (W.zret C.e C.b C.r (by rcases hz with rfl | rfl <;> rfl) (fun t ht hW => ⟨⟨u, by rw [hu], ho, by rw [ht, hw]; exact hP, by rw [hw]; exact hD⟩, hS.F ht⟩) hS.2.2 hd C.l)
theorem k_aret {S : Type} {ok : S → Prop} {rv : S → Option Value} {w1 : S → va_W} {rt : FieldType} (C : Cx X cc own Ts (some rt) n rm) (hR : Ret X ok rv w1) (hrt : (∃ n, rt = .object n) ∨ ∃ t, rt = .array t) {a : Nat} (u : S) (hu : rv u = some (.ref a)) (ho : ok u) (hw : w1 u = ws) (hk : k ≤ rm.cells) (hj : j ≤ rm.slots) (hd : decode cc pc = .ok (.areturn, 1)) : K_ X k j ws pc lo [.ref a] :=
  fun H locs ls hP hD hS hl => hR H locs k j _ (by rw [C.R]; exact hk) (by rw [C.R]; exact hj) (W.aret C.e C.b C.r hrt (Or.inr ⟨a, rfl⟩) (fun t ht hW => ⟨⟨u, by rw [hu], ho, by rw [ht, hw]; exact hP, by rw [hw]; exact hD⟩, hS.F ht⟩) hS.2.2 hd C.l)
theorem k_vret {S : Type} {ok : S → Prop} {rv : S → Option Value} {w1 : S → va_W} (C : Cx X cc own Ts none n rm) (hR : Ret X ok rv w1) (u : S) (hu : rv u = none) (ho : ok u) (hw : w1 u = ws) (hk : k ≤ rm.cells) (hj : j ≤ rm.slots) (hd : decode cc pc = .ok (.return_, 1)) : K_ X k j ws pc lo [] :=
  fun H locs ls hP hD hS hl => hR H locs k j _ (by rw [C.R]; exact hk) (by rw [C.R]; exact hj) (W.vret C.e C.b C.r (fun t ht hW => ⟨⟨u, by rw [hu], ho, by rw [ht, hw]; exact hP, by rw [hw]; exact hD⟩, hS.F ht⟩) hS.2.2 hd C.l)
end KR
end
section
/-! calls over K_ -/
theorem mapget {α : Type} {is : List Nat} {ws w2 : List α} (h : is.map (fun i => ws[i]?) = w2.map some) {k : Nat} {q : α} (hq : w2[k]? = some q) : ∃ i, is[k]? = some i ∧ ws[i]? = some q := by
  have h1 : (is.map (fun i => ws[i]?))[k]? = some (some q) := by rw [h, List.getElem?_map, hq]; rfl
  rw [List.getElem?_map] at h1
  cases hi : is[k]? with
  | none => rw [hi] at h1; cases h1
  | some i => rw [hi] at h1; exact ⟨i, rfl, Option.some.inj h1⟩
section KC
variable {X : KX} {cc : ByteArray} {own : String} {Ts : List Cond} {ret : Option FieldType} {n : Nat} {rm : Room} {k j pc : Nat} {ws : va_W} {lo lo' : List (Nat × Value)} {st : List Value}
/-- St at a call -/
theorem st_call (C : Cx X cc own Ts ret n rm) {H : Heap} {locs : List Loc} (hS : va_S (x_A X) (x_s X).heap H locs) {wc : va_W} (hF : ∀ q, va_A wc H.size q → x_A X q) {U : State} (hU : U.heap = H) (hW : (x_s X).WarmedH U.vm) : St (x_G X) (va_A wc H.size) U U.heap := by
  rw [hU]
  exact ((C.S.kept hS.2.1).narrow hF).moved hW
theorem pg_call (C : Cx X cc own Ts ret n rm) {H : Heap} {locs : List Loc} (hP : va_P (g_D (x_G X)) vwCl ws H) (hD : va_D (x_A X) ws) (hS : va_S (x_A X) (x_s X).heap H locs) {wc : va_W} (isC : List Nat) (hnC : va_nd isC = true) (hC : isC.map (fun i => ws[i]?) = wc.map some) {av : List Value} {U : State} (hU : U.heap = H) (hW : (x_s X).WarmedH U.vm) : Pg (x_G X) av wc H.size av.toArray U := by
  refine ⟨rfl, by rw [hU], ?_, va_K.moved hW.alike C.K, (hD.sub isC hnC hC).weaken (fun _ _ _ _ => trivial), st_call C hS (va_free hD hS C.A isC hC) hU hW⟩
  rw [hU]
  intro k q hq
  obtain ⟨i, -, h2⟩ := mapget hC hq
  exact hP i q h2
/-- behind a call that returns -/
theorem w_back (C : Cx X cc own Ts ret n rm) {S : Type} {ok : S → Prop} {rv : S → Option Value} {w1 : S → va_W} {wc : va_W} {H : Heap} {locs : List Loc} {ls : Array Slot} {rest st0 : List Value} {mc ms : Nat} {a : Array Value}
    (hP : va_P (g_D (x_G X)) vwCl ws H) (hD : va_D (x_A X) ws) (hS : va_S (x_A X) (x_s X).heap H locs) (isC : List Nat) (hC : isC.map (fun i => ws[i]?) = wc.map some)
    (hr : va_Run (x_p X) (x_l X) (x_e X) (x_R X) (x_s X) (x_m X) (x_a X) (x_b X) (x_M X) (x_c X) H locs k j mc ms (F0 (x_m X) pc ls st0) rest (Qg (x_G X) ok rv w1 (va_A wc H.size) a) (va_A wc H.size))
    (kk : ∀ (u : S) (H1 : Heap) (locs1 : List Loc), ok u → va_P (g_D (x_G X)) vwCl (w1 u) H1 → va_D (va_A wc H.size) (w1 u) → (∀ q : Nat, q < H.size → ¬ va_A wc H.size q → H1[q]? = H[q]?) → va_S (x_A X) (x_s X).heap H1 locs1 →
      W (x_p X) (x_l X) (x_e X) (x_R X) (x_s X) (x_m X) (x_a X) (x_b X) (x_M X) (x_c X) H1 locs1 (k + mc) (j + ms) (x_Q X) (F0 (x_m X) (pc + 3) ls ((rv u).toList ++ rest))) :
    W (x_p X) (x_l X) (x_e X) (x_R X) (x_s X) (x_m X) (x_a X) (x_b X) (x_M X) (x_c X) H locs k j (x_Q X) (F0 (x_m X) pc ls st0) := by
  have hF := va_free hD hS C.A isC hC
  intro T hT Y
  obtain ⟨v, st₀, t, T', L, h0, Y', hL, e1, e2, ⟨⟨u, hv, hp, hb, hd⟩, hz, hk⟩, go⟩ := hr T hT Y
  cases hv
  rw [h0] at hz hk
  obtain ⟨t2, a1, b1⟩ := kk u T'.heap (locs ++ L) hp (by rw [e1]; exact hb) hd (fun q h1 h2 => by rw [e1]; exact hk q h1 h2)
    ⟨Nat.le_trans hS.1 (by rw [e1]; exact hz), fun q h1 h2 => by rw [e1, hk q (Nat.lt_of_lt_of_le h1 hS.1) (fun z => h2 (hF q z))]; exact hS.2.1 q h1 h2, fun q hq => by
      rcases List.mem_append.mp hq with h | h
      · exact hS.2.2 q h
      · exact hF _ (hL q h)⟩ T' rfl Y'
  exact ⟨t2, go t2 a1, b1⟩
/-- the caller's world behind a call that leaves the callee's world w1 -/
theorem w_join {wc w1 wr w' : va_W} {H H1 : Heap} {locs : List Loc} (C : Cx X cc own Ts ret n rm) (hP : va_P (g_D (x_G X)) vwCl ws H) (hD : va_D (x_A X) ws) (hS : va_S (x_A X) (x_s X).heap H locs) (isC isR is : List Nat) (hC : isC.map (fun i => ws[i]?) = wc.map some) (hR : isR.map (fun i => ws[i]?) = wr.map some) (hn : va_nd isR = true) (hdis : ∀ i ∈ isR, i ∉ isC) (hn2 : va_nd is = true) (h2 : is.map (fun i => (wr ++ w1)[i]?) = w'.map some)
    (hk : ∀ q : Nat, q < H.size → ¬ va_A wc H.size q → H1[q]? = H[q]?) (hP1 : va_P (g_D (x_G X)) vwCl w1 H1) (hD1 : va_D (va_A wc H.size) w1) : va_P (g_D (x_G X)) vwCl w' H1 ∧ va_D (x_A X) w' := by
  obtain ⟨hP2, hD2⟩ := va_join hP hD isC isR hC hR hn hdis hk (va_free hD hS C.A isC hC) hP1 hD1
  refine ⟨fun k q hq => ?_, hD2.sub is hn2 h2⟩
  obtain ⟨i, -, h3⟩ := mapget h2 hq
  exact hP2 i q h3
/-- .. or leaves the callee's world as it was -/
theorem w_same {wc : va_W} {H H1 : Heap} {isC : List Nat} (hP : va_P (g_D (x_G X)) vwCl ws H) (hC : isC.map (fun i => ws[i]?) = wc.map some)
    (hk : ∀ q : Nat, q < H.size → ¬ va_A wc H.size q → H1[q]? = H[q]?) (hD : va_D (x_A X) ws) (hP1 : va_P (g_D (x_G X)) vwCl wc H1) : va_P (g_D (x_G X)) vwCl ws H1 := by
  intro i q hq
  by_cases h : ∃ (k : Nat) (e : va_E), wc[k]? = some (q.1, e)
  · obtain ⟨k, e, hk2⟩ := h
    obtain ⟨i2, -, h3⟩ := mapget hC hk2
    have e1 : i2 = i := hD.1 i2 i _ _ h3 hq rfl
    subst e1
    rw [h3] at hq
    have e2 := Option.some.inj hq
    rw [← e2]
    exact hP1 k _ hk2
  · have hlt := (hP i q hq).lt
    refine (hP i q hq).kept (hk q.1 hlt (fun z => ?_))
    rcases z with z | z
    · exact h z
    · omega
/-- the callee's room -/
theorem room_ok (C : Cx X cc own Ts ret n rm) {mc ms : Nat} (h : k + mc ≤ rm.cells ∧ j + ms ≤ rm.slots) : k + mc ≤ (x_R X).cells ∧ j + ms ≤ (x_R X).slots := by rw [C.R]; exact h
theorem k_callV (C : Cx X cc own Ts ret n rm) {S : Type} {ok : S → Prop} {rv : S → Option Value} {w1 : S → va_W} {y : MethodName} {wsy ws' : List Cond} {rmy : Room} {b : Nat} (av : List Value) (nn : Nat) (hnn : av.length = nn) {wc : va_W} {bytes : ByteArray} {maxL ix : Nat} {rty : Option FieldType} {Cn : String}
    (hM : Ct (x_l X) (x_G X) y wsy rmy (.ref b :: av) wc ok rv w1) (hG : GoodIn Ts (wsV own ix Cn y wsy)) (hw : wsy = Cond.code y bytes maxL rty :: ws')
    (hdd : y.cls = Cn ∧ y.cls ≠ "java/lang/invoke/MethodHandle" ∧ y.cls ≠ "java/lang/invoke/VarHandle" ∧ (parseMethodDescriptor y.desc).map (fun d => d.parameters.length) = some nn) (hR : rmy.frames + 1 ≤ rm.frames ∧ 8 + (maxL + 11) + rmy.locals ≤ rm.locals)
    (q0 : Nat) {ci : Nat} {q : vw_C} {fs : List Value} (he : ws[q0]? = some (b, .inr (ci, fs))) (hc : vwCl[ci]? = some q) (hq : q.1 = Cn)
    (isC : List Nat) (hnC : va_nd isC = true) (hC : isC.map (fun i => ws[i]?) = wc.map some) (rest : List Value) (hst : st = av.reverse ++ .ref b :: rest) (hW : (rest.map fun v => v.category).sum ≤ 8) (hroom : k + rmy.cells ≤ rm.cells ∧ j + rmy.slots ≤ rm.slots) (hd : decode cc pc = .ok (.invokevirtual ix, 3))
    (w' : S → va_W) (hj : (∀ u, w1 u = wc ∧ w' u = ws) ∨ ∃ (isR is : List Nat) (wr : va_W), isR.map (fun i => ws[i]?) = wr.map some ∧ va_nd isR = true ∧ (∀ i ∈ isR, i ∉ isC) ∧ va_nd is = true ∧ ∀ u, is.map (fun i => (wr ++ w1 u)[i]?) = (w' u).map some)
    (st2 : S → List Value) (h9 : ∀ u, (rv u).toList ++ rest = st2 u) (k2 j2 : Nat) (h8 : k + rmy.cells = k2 ∧ j + rmy.slots = j2) (kk : ∀ u : S, ok u → K_ X k2 j2 (w' u) (pc + 3) lo (st2 u)) : K_ X k j ws pc lo st := by
  intro H locs ls hP hD hS hl
  refine w_back C hP hD hS isC hC (va_runV (As := av) (b := b) C.F (hM H.size) (cwV nn C.w hG hw rfl rfl hdd (by rw [C.R]; exact hR)) ⟨Pg.blind, hq ▸ va_recv C.K hP hc he, fun U hU hW => pg_call C hP hD hS isC hnC hC hU hW⟩ rfl hnn hl.1 hst (lv_room hW) hd (room_ok C hroom)) (fun u H1 locs1 ho hP1 hD1 hk1 hS1 => ?_)
  rw [h9 u, h8.1, h8.2]
  rcases hj with hj | ⟨isR, is, wr, j1, j2, j3, j4, j5⟩
  · obtain ⟨e1, e2⟩ := hj u
    rw [e1] at hP1
    exact kk u ho H1 locs1 ls (by rw [e2]; exact w_same hP hC hk1 hD hP1) (by rw [e2]; exact hD) hS1 hl
  · obtain ⟨hP2, hD2⟩ := w_join C hP hD hS isC isR is hC j1 j2 j3 j4 (j5 u) hk1 hP1 hD1
    exact kk u ho H1 locs1 ls hP2 hD2 hS1 hl
theorem k_callS (C : Cx X cc own Ts ret n rm) {S : Type} {ok : S → Prop} {rv : S → Option Value} {w1 : S → va_W} {y : MethodName} {wsy ws' : List Cond} {rmy : Room} (av : List Value) (nn : Nat) (hnn : av.length = nn) {wc : va_W} {bytes : ByteArray} {maxL ix : Nat} {rty : Option FieldType}
    (hM : Ct (x_l X) (x_G X) y wsy rmy av wc ok rv w1) (hG : GoodIn Ts (va_wsS own ix y wsy)) (hw : wsy = Cond.code y bytes maxL rty :: ws')
    (hdd : y.cls ≠ "java/lang/invoke/MethodHandle" ∧ y.cls ≠ "java/lang/invoke/VarHandle" ∧ (parseMethodDescriptor y.desc).map (fun d => d.parameters.length) = some nn) (hR : rmy.frames + 1 ≤ rm.frames ∧ 8 + (maxL + 11) + rmy.locals ≤ rm.locals)
    (isC : List Nat) (hnC : va_nd isC = true) (hC : isC.map (fun i => ws[i]?) = wc.map some) (rest : List Value) (hst : st = av.reverse ++ rest) (hW : (rest.map fun v => v.category).sum ≤ 8) (hroom : k + rmy.cells ≤ rm.cells ∧ j + rmy.slots ≤ rm.slots) (hd : decode cc pc = .ok (.invokestatic ix, 3))
    (w' : S → va_W) (hj : (∀ u, w1 u = wc ∧ w' u = ws) ∨ ∃ (isR is : List Nat) (wr : va_W), isR.map (fun i => ws[i]?) = wr.map some ∧ va_nd isR = true ∧ (∀ i ∈ isR, i ∉ isC) ∧ va_nd is = true ∧ ∀ u, is.map (fun i => (wr ++ w1 u)[i]?) = (w' u).map some)
    (st2 : S → List Value) (h9 : ∀ u, (rv u).toList ++ rest = st2 u) (k2 j2 : Nat) (h8 : k + rmy.cells = k2 ∧ j + rmy.slots = j2) (kk : ∀ u : S, ok u → K_ X k2 j2 (w' u) (pc + 3) lo (st2 u)) : K_ X k j ws pc lo st := by
  intro H locs ls hP hD hS hl
  refine w_back C hP hD hS isC hC (va_runS (As := av) C.F (hM H.size) (va_cwS nn C.w hG hw rfl rfl hdd (by rw [C.R]; exact hR)) ⟨Pg.blind, fun U hU hW => pg_call C hP hD hS isC hnC hC hU hW⟩ rfl hnn hl.1 hst (lv_room hW) hd (room_ok C hroom)) (fun u H1 locs1 ho hP1 hD1 hk1 hS1 => ?_)
  rw [h9 u, h8.1, h8.2]
  rcases hj with hj | ⟨isR, is, wr, j1, j2, j3, j4, j5⟩
  · obtain ⟨e1, e2⟩ := hj u
    rw [e1] at hP1
    exact kk u ho H1 locs1 ls (by rw [e2]; exact w_same hP hC hk1 hD hP1) (by rw [e2]; exact hD) hS1 hl
  · obtain ⟨hP2, hD2⟩ := w_join C hP hD hS isC isR is hC j1 j2 j3 j4 (j5 u) hk1 hP1 hD1
    exact kk u ho H1 locs1 ls hP2 hD2 hS1 hl
theorem k_callI (C : Cx X cc own Ts ret n rm) {S : Type} {ok : S → Prop} {w1 : S → va_W} {y : MethodName} {wsy ws' : List Cond} {rmy : Room} {b : Nat} (av : List Value) (nn : Nat) (hnn : av.length = nn) {wc : va_W} {bytes : ByteArray} {maxL ix : Nat}
    (hM : Ct (x_l X) (x_G X) y wsy rmy (.ref b :: av) wc ok (fun _ : S => none) w1) (hG : GoodIn Ts wsy) (hw : wsy = Cond.code y bytes maxL none :: ws') (iI0 iL0 iN0 : Nat) (h1 : Ts[iI0]? = some (.initialized y.cls)) (h2 : Ts[iL0]? = some (.methodLink own ix y)) (h3 : Ts[iN0]? = some (.instanceMethod y)) (hy1 : y.name = "<init>")
    (hdd : y.cls ≠ "java/lang/invoke/MethodHandle" ∧ y.cls ≠ "java/lang/invoke/VarHandle" ∧ (parseMethodDescriptor y.desc).map (fun d => d.parameters.length) = some nn) (hR : rmy.frames + 1 ≤ rm.frames ∧ 8 + (maxL + 11) + rmy.locals ≤ rm.locals)
    (isC : List Nat) (hnC : va_nd isC = true) (hC : isC.map (fun i => ws[i]?) = wc.map some) (rest : List Value) (hst : st = av.reverse ++ .ref b :: rest) (hW : (rest.map fun v => v.category).sum ≤ 8) (hroom : k + rmy.cells ≤ rm.cells ∧ j + rmy.slots ≤ rm.slots) (hd : decode cc pc = .ok (.invokespecial ix, 3))
    (w' : S → va_W) (hj : ∃ (isR is : List Nat) (wr : va_W), isR.map (fun i => ws[i]?) = wr.map some ∧ va_nd isR = true ∧ (∀ i ∈ isR, i ∉ isC) ∧ va_nd is = true ∧ ∀ u, is.map (fun i => (wr ++ w1 u)[i]?) = (w' u).map some)
    (k2 j2 : Nat) (h8 : k + rmy.cells = k2 ∧ j + rmy.slots = j2) (kk : ∀ u : S, ok u → K_ X k2 j2 (w' u) (pc + 3) lo rest) : K_ X k j ws pc lo st := by
  intro H locs ls hP hD hS hl
  refine w_back C hP hD hS isC hC (va_runI (As := av) (b := b) C.F (hM H.size) (cwI nn C.w hG hw rfl rfl (C.at iI0 h1) (C.at iL0 h2) (C.at iN0 h3) hy1 hdd (by rw [C.R]; exact hR)) ⟨Pg.blind, fun U hU hW => pg_call C hP hD hS isC hnC hC hU hW⟩ rfl hnn hl.1 hst (lv_room hW) hd (room_ok C hroom)) (fun u H1 locs1 ho hP1 hD1 hk1 hS1 => ?_)
  rw [h8.1, h8.2]
  obtain ⟨isR, is, wr, j1, j2, j3, j4, j5⟩ := hj
  obtain ⟨hP2, hD2⟩ := w_join C hP hD hS isC isR is hC j1 j2 j3 j4 (j5 u) hk1 hP1 hD1
  exact kk u ho H1 locs1 ls hP2 hD2 hS1 hl
theorem k_callSN (C : Cx X cc own Ts ret n rm) {S : Type} {ok : S → Prop} {rv : S → Option Value} {w1 : S → va_W} {y : MethodName} {wsy ws' : List Cond} {rmy : Room} (av : List Value) (nn : Nat) (hnn : av.length = nn) {wc : va_W} {bytes : ByteArray} {maxL ix : Nat} {rty : Option FieldType}
    (hM : Ct (x_l X) (x_G X) y wsy rmy av wc ok rv w1) (hG : GoodIn Ts wsy) (hw : wsy = Cond.code y bytes maxL rty :: ws')
    (iL : Nat) {host : String} (hL : nestM[iL]? = some (own, ix, y, host)) (iI0 iT0 : Nat) (h1 : Ts[iI0]? = some (.initialized y.cls)) (h2 : Ts[iT0]? = some (.static y)) (hdd : y.cls ≠ "java/lang/invoke/MethodHandle" ∧ y.cls ≠ "java/lang/invoke/VarHandle" ∧ (parseMethodDescriptor y.desc).map (fun d => d.parameters.length) = some nn) (hR : rmy.frames + 1 ≤ rm.frames ∧ 8 + (maxL + 11) + rmy.locals ≤ rm.locals)
    (isC : List Nat) (hnC : va_nd isC = true) (hC : isC.map (fun i => ws[i]?) = wc.map some) (rest : List Value) (hst : st = av.reverse ++ rest) (hW : (rest.map fun v => v.category).sum ≤ 8) (hroom : k + rmy.cells ≤ rm.cells ∧ j + rmy.slots ≤ rm.slots) (hd : decode cc pc = .ok (.invokestatic ix, 3))
    (w' : S → va_W) (hj : (∀ u, w1 u = wc ∧ w' u = ws) ∨ ∃ (isR is : List Nat) (wr : va_W), isR.map (fun i => ws[i]?) = wr.map some ∧ va_nd isR = true ∧ (∀ i ∈ isR, i ∉ isC) ∧ va_nd is = true ∧ ∀ u, is.map (fun i => (wr ++ w1 u)[i]?) = (w' u).map some)
    (st2 : S → List Value) (h9 : ∀ u, (rv u).toList ++ rest = st2 u) (k2 j2 : Nat) (h8 : k + rmy.cells = k2 ∧ j + rmy.slots = j2) (kk : ∀ u : S, ok u → K_ X k2 j2 (w' u) (pc + 3) lo (st2 u)) : K_ X k j ws pc lo st := by
  intro H locs ls hP hD hS hl
  refine w_back C hP hD hS isC hC (va_runSN (As := av) C.F (hM H.size) ⟨va_cnB nn C.w hG hw rfl rfl (C.nM iL hL) (C.at iI0 h1) hdd (by rw [C.R]; exact hR), C.at iT0 h2, trivial⟩ ⟨Pg.blind, fun U hU hW => pg_call C hP hD hS isC hnC hC hU hW⟩ rfl hnn hl.1 hst (lv_room hW) hd (room_ok C hroom)) (fun u H1 locs1 ho hP1 hD1 hk1 hS1 => ?_)
  rw [h9 u, h8.1, h8.2]
  rcases hj with hj | ⟨isR, is, wr, j1, j2, j3, j4, j5⟩
  · obtain ⟨e1, e2⟩ := hj u
    rw [e1] at hP1
    exact kk u ho H1 locs1 ls (by rw [e2]; exact w_same hP hC hk1 hD hP1) (by rw [e2]; exact hD) hS1 hl
  · obtain ⟨hP2, hD2⟩ := w_join C hP hD hS isC isR is hC j1 j2 j3 j4 (j5 u) hk1 hP1 hD1
    exact kk u ho H1 locs1 ls hP2 hD2 hS1 hl
theorem k_callIN (C : Cx X cc own Ts ret n rm) {S : Type} {ok : S → Prop} {w1 : S → va_W} {y : MethodName} {wsy ws' : List Cond} {rmy : Room} {b : Nat} (av : List Value) (nn : Nat) (hnn : av.length = nn) {wc : va_W} {bytes : ByteArray} {maxL ix : Nat}
    (hM : Ct (x_l X) (x_G X) y wsy rmy (.ref b :: av) wc ok (fun _ : S => none) w1) (hG : GoodIn Ts wsy) (hw : wsy = Cond.code y bytes maxL none :: ws') (iI0 iL0 iN0 : Nat) {host : String} (h1 : Ts[iI0]? = some (.initialized y.cls)) (h2 : nestM[iL0]? = some (own, ix, y, host)) (h3 : Ts[iN0]? = some (.instanceMethod y)) (hy1 : y.name = "<init>")
    (hdd : y.cls ≠ "java/lang/invoke/MethodHandle" ∧ y.cls ≠ "java/lang/invoke/VarHandle" ∧ (parseMethodDescriptor y.desc).map (fun d => d.parameters.length) = some nn) (hR : rmy.frames + 1 ≤ rm.frames ∧ 8 + (maxL + 11) + rmy.locals ≤ rm.locals)
    (isC : List Nat) (hnC : va_nd isC = true) (hC : isC.map (fun i => ws[i]?) = wc.map some) (rest : List Value) (hst : st = av.reverse ++ .ref b :: rest) (hW : (rest.map fun v => v.category).sum ≤ 8) (hroom : k + rmy.cells ≤ rm.cells ∧ j + rmy.slots ≤ rm.slots) (hd : decode cc pc = .ok (.invokespecial ix, 3))
    (w' : S → va_W) (hj : ∃ (isR is : List Nat) (wr : va_W), isR.map (fun i => ws[i]?) = wr.map some ∧ va_nd isR = true ∧ (∀ i ∈ isR, i ∉ isC) ∧ va_nd is = true ∧ ∀ u, is.map (fun i => (wr ++ w1 u)[i]?) = (w' u).map some)
    (k2 j2 : Nat) (h8 : k + rmy.cells = k2 ∧ j + rmy.slots = j2) (kk : ∀ u : S, ok u → K_ X k2 j2 (w' u) (pc + 3) lo rest) : K_ X k j ws pc lo st := by
  intro H locs ls hP hD hS hl
  refine w_back C hP hD hS isC hC (va_runIN (As := av) (b := b) C.F (hM H.size) ⟨va_cnB nn C.w hG hw rfl rfl (C.nM iL0 h2) (C.at iI0 h1) hdd (by rw [C.R]; exact hR), hy1, C.at iN0 h3⟩ ⟨Pg.blind, fun U hU hW => pg_call C hP hD hS isC hnC hC hU hW⟩ rfl hnn hl.1 hst (lv_room hW) hd (room_ok C hroom)) (fun u H1 locs1 ho hP1 hD1 hk1 hS1 => ?_)
  rw [h8.1, h8.2]
  obtain ⟨isR, is, wr, j1, j2, j3, j4, j5⟩ := hj
  obtain ⟨hP2, hD2⟩ := w_join C hP hD hS isC isR is hC j1 j2 j3 j4 (j5 u) hk1 hP1 hD1
  exact kk u ho H1 locs1 ls hP2 hD2 hS1 hl
theorem k_objInit (C : Cx X cc own Ts ret n rm) {ix a : Nat} (i1 i2 i3 : Nat) (h1 : Ts[i1]? = some (.methodLink own ix Lib.objectInit)) (h2 : Ts[i2]? = some (.instanceMethod Lib.objectInit)) (h3 : Ts[i3]? = some (.code Lib.objectInit ⟨#[0xb1]⟩ 1 none)) (hf : 1 ≤ rm.frames) (hL : (st.map fun v => v.category).sum + 12 ≤ rm.locals) (hd : decode cc pc = .ok (.invokespecial ix, 3)) (kk : K_ X k j ws (pc + 3) lo st) : K_ X k j ws pc lo (.ref a :: st) :=
  fun H locs ls hP hD hS hl => W.objInit (rest := st) C.e C.b C.o (C.at i1 h1) (C.at i2 h2) (C.at i3 h3) rfl (hl.1.trans C.nn.symm) rfl hd (by rw [C.R]; exact hf) (by rw [C.R]; simpa [JFrame.monitorRoom] using hL) (kk H locs ls hP hD hS hl)
theorem iI_ltif {a b x y : Int} (ha : -2147483648 ≤ a ∧ a < 2147483648) (hb : -2147483648 ≤ b ∧ b < 2147483648) : (if iI a < iI b then iI x else iI y) = iI (if a < b then x else y) := by
  by_cases h : a < b
  · rw [if_pos h, if_pos ((iI_lt ha.1 ha.2 hb.1 hb.2).mpr h)]
  · rw [if_neg h, if_neg (fun z => h ((iI_lt ha.1 ha.2 hb.1 hb.2).mp z))]
theorem k_max (C : Cx X cc own Ts ret n rm) {ix : Nat} {a b : Int} (i1 i2 i3 i4 : Nat) (ha : -2147483648 ≤ a ∧ a < 2147483648) (hb : -2147483648 ≤ b ∧ b < 2147483648) (h1 : Ts[i1]? = some (.methodLink own ix Lib.Math.max.name)) (h2 : Ts[i2]? = some (.static Lib.Math.max.name)) (h3 : Ts[i3]? = some (.initialized "java/lang/Math")) (h4 : Ts[i4]? = some (.code Lib.Math.max.name Lib.Math.max.code 2 (some .int))) (hf : 1 ≤ rm.frames) (hL : (st.map fun v => v.category).sum + 13 ≤ rm.locals) (hk : k ≤ rm.cells ∧ j ≤ rm.slots) (hd : decode cc pc = .ok (.invokestatic ix, 3)) (kk : ∀ z : Int, (z = a ∨ z = b) ∧ a ≤ z ∧ b ≤ z → K_ X k j ws (pc + 3) lo (.int (iI z) :: st)) : K_ X k j ws pc lo (.int (iI b) :: .int (iI a) :: st) :=
  fun H locs ls hP hD hS hl => va_mmax C.e C.b (C.nn.trans hl.1.symm) C.o (C.at i1 h1) (C.at i2 h2) (C.at i3 h3) (C.at i4 h4) (by rw [C.R]; exact hf) (by rw [C.R]; exact hL) (by rw [C.R]; exact hk.1) (by rw [C.R]; exact hk.2) hd (by
    rw [iI_ltif ha hb]
    refine kk _ ?_ H locs ls hP hD hS hl
    by_cases h : a < b
    · rw [if_pos h]; omega
    · rw [if_neg h]; omega)
theorem k_min (C : Cx X cc own Ts ret n rm) {ix : Nat} {a b : Int} (i1 i2 i3 i4 : Nat) (ha : -2147483648 ≤ a ∧ a < 2147483648) (hb : -2147483648 ≤ b ∧ b < 2147483648) (h1 : Ts[i1]? = some (.methodLink own ix Lib.Math.min.name)) (h2 : Ts[i2]? = some (.static Lib.Math.min.name)) (h3 : Ts[i3]? = some (.initialized "java/lang/Math")) (h4 : Ts[i4]? = some (.code Lib.Math.min.name Lib.Math.min.code 2 (some .int))) (hf : 1 ≤ rm.frames) (hL : (st.map fun v => v.category).sum + 13 ≤ rm.locals) (hk : k ≤ rm.cells ∧ j ≤ rm.slots) (hd : decode cc pc = .ok (.invokestatic ix, 3)) (kk : ∀ z : Int, (z = a ∨ z = b) ∧ z ≤ a ∧ z ≤ b → K_ X k j ws (pc + 3) lo (.int (iI z) :: st)) : K_ X k j ws pc lo (.int (iI b) :: .int (iI a) :: st) :=
  fun H locs ls hP hD hS hl => va_mmin C.e C.b (C.nn.trans hl.1.symm) C.o (C.at i1 h1) (C.at i2 h2) (C.at i3 h3) (C.at i4 h4) (by rw [C.R]; exact hf) (by rw [C.R]; exact hL) (by rw [C.R]; exact hk.1) (by rw [C.R]; exact hk.2) hd (by
    rw [iI_ltif hb ha]
    refine kk _ ?_ H locs ls hP hD hS hl
    by_cases h : b < a
    · rw [if_pos h]; omega
    · rw [if_neg h]; omega)
end KC
end
section
/-! throwing, and calls of what may throw -/
section KT
variable {X : KX} {cc : ByteArray} {own : String} {Ts : List Cond} {ret : Option FieldType} {n : Nat} {rm : Room} {k j pc : Nat} {ws : va_W} {lo lo' : List (Nat × Value)} {st : List Value}
def exS : List String := ["java/lang/RuntimeException", "java/lang/Exception"]
/-- what a throw owes: the goal out of vx_MQ -/
def Thr (X : KX) {V : Type} (okx : V → Prop) (ex : V → String) (wx : V → va_W) : Prop :=
  ∃ Qc, x_Q X = vx_MQ (x_b X) Qc (XCg (x_G X) okx ex wx (x_A X)) (x_a X) (x_s X) (x_R X).cells (x_R X).slots (x_A X)
theorem k_throw (C : Cx X cc own Ts ret n rm) {V : Type} {okx : V → Prop} {ex : V → String} {wx : V → va_W} (hT : Thr X okx ex wx) (htab : ∀ x ∈ (x_c X).exceptionTable.toList, False) (hl : (x_l X).stackTraces = false) (ho : own = "StruckCounts") {cls text : String} {ik is ic : Nat} (iS : Nat) (hS0 : exT[iS]? = some (is, text)) (iC : Nat) (hC0 : exC[iC]? = some cls)
    (iK iI0 : Nat) (h1 : Ts[iK]? = some (.classLink own ik cls)) (h2 : Ts[iI0]? = some (.initialized cls)) (hcls : Bundle.fit cls = true) (hnm : ∀ n ∈ exS, Bundle.fit n = true) (hg : ∀ w ∈ (vx_atS own ic cls exS).filter goodWord, w ∈ Ts) (hb : ∀ w ∈ (vx_atS own ic cls exS).filter (fun w => !goodWord w), w ∈ Cond.castable cls cls :: exD.map Cond.declares) (hot : ∀ w ∈ Cond.classLink own ik cls :: Cond.initialized cls :: vx_atS own ic cls exS, vx_ot w = true)
    (d0 : decode cc pc = .ok (.new ik, 3)) (d3 : decode cc (pc + 3) = .ok (.dup, 1)) (d4 : decode cc (pc + 4) = .ok (.ldc is, 2)) (d6 : decode cc (pc + 6) = .ok (.invokespecial ic, 3)) (d9 : decode cc (pc + 9) = .ok (.athrow, 1))
    (hf : 5 < rm.frames) (hlo : (st.map fun v => v.category).sum + 82 ≤ rm.locals) (hc : k + 1 ≤ rm.cells) (hs : j + 6 ≤ rm.slots) (v : V) (hv : ex v = cls) (hok : okx v) (hw : wx v = ws) : K_ X k j ws pc lo st := by
  intro H locs ls hP hD hS hL
  subst ho
  obtain ⟨Qc, hQ⟩ := hT
  obtain ⟨sa, hsa⟩ := C.S.2.2.2.2.2.2.2.1 _ (List.mem_of_getElem? hS0)
  have hca := C.S.2.2.2.2.2.2.2.2.2.2.1 _ (List.mem_of_getElem? hC0)
  have hat := vx_hat (args := x_a X) (s := x_s X) (L := vx_atS "StruckCounts" ic cls exS) (B := Cond.castable cls cls :: exD.map Cond.declares) (fun w hw => C.w w (hg w hw)) hb (vx_c (hca.use rfl) (fun w hw => by
    obtain ⟨q, hq, rfl⟩ := List.mem_map.mp hw
    exact (C.S.2.2.2.2.2.2.2.2.2.2.2.2.1 q hq).use rfl))
  rw [hQ]
  refine vx_throwS (A := x_A X) C.e C.b hl C.o hcls hnm (C.at iK h1) (C.at iI0 h2) hsa hat hot C.S.2.2.2.2.2.2.1.1 C.S.2.2.2.2.2.2.1.2 hS (hL.1.trans C.nn.symm) d0 d3 d4 d6 d9 (fun x hx => absurd (htab x hx) (fun z => z)) (by rw [C.R]; exact hf) (by rw [C.R]; exact hlo) (by rw [C.R]; exact hc) (by rw [C.R]; exact hs) C.l (fun t hA hz hq => ?_) hS.2.2 (by rw [C.R]; exact hc) (by rw [C.R]; exact hs)
  refine ⟨⟨v, hv.symm, hok, ?_, by rw [hw]; exact hD⟩, Nat.le_trans hS.1 hz, fun q h1 h2 => ?_⟩
  · rw [hw]
    exact hP.kept fun i q hi => hq q.1 (hP i q hi).lt
  · rw [hq q (Nat.lt_of_lt_of_le h1 hS.1)]
    exact hS.2.1 q h1 h2
/-- behind a call that returns or throws -/
theorem w_backX (C : Cx X cc own Ts ret n rm) {S V : Type} {ok : S → Prop} {rv : S → Option Value} {w1 : S → va_W} {okx : V → Prop} {ex : V → String} {wx : V → va_W} {wc : va_W} {H : Heap} {locs : List Loc} {ls : Array Slot} {rest st0 : List Value} {mc ms : Nat} {a : Array Value}
    (hP : va_P (g_D (x_G X)) vwCl ws H) (hD : va_D (x_A X) ws) (hS : va_S (x_A X) (x_s X).heap H locs) (isC : List Nat) (hC : isC.map (fun i => ws[i]?) = wc.map some)
    (hr : vx_Run (x_p X) (x_l X) (x_e X) (x_R X) (x_s X) (x_m X) (x_a X) (x_b X) (x_M X) (x_c X) H locs k j mc ms (F0 (x_m X) pc ls st0) rest (Qg (x_G X) ok rv w1 (va_A wc H.size) a) (XCg (x_G X) okx ex wx (va_A wc H.size)) (va_A wc H.size))
    (kx : ∀ (v : V) (H1 : Heap) (locs1 : List Loc) (ce : Cell) (q9 : Addr), okx v → va_P (g_D (x_G X)) vwCl (wx v) H1 → va_D (va_A wc H.size) (wx v) → (∀ q : Nat, q < H.size → ¬ va_A wc H.size q → H1[q]? = H[q]?) → va_S (x_A X) (x_s X).heap H1 locs1 → H1[q9]? = some ce → ce.vm = .none → (x_s X).vm.findClass (ex v) = some ce.cls →
      vx_W (x_p X) (x_l X) (x_e X) (x_R X) (x_s X) (x_m X) (x_a X) (x_b X) (x_M X) (x_c X) H1 locs1 (k + mc) (j + ms) (x_Q X) (F0 (x_m X) pc ls rest) q9)
    (kk : ∀ (u : S) (H1 : Heap) (locs1 : List Loc), ok u → va_P (g_D (x_G X)) vwCl (w1 u) H1 → va_D (va_A wc H.size) (w1 u) → (∀ q : Nat, q < H.size → ¬ va_A wc H.size q → H1[q]? = H[q]?) → va_S (x_A X) (x_s X).heap H1 locs1 →
      W (x_p X) (x_l X) (x_e X) (x_R X) (x_s X) (x_m X) (x_a X) (x_b X) (x_M X) (x_c X) H1 locs1 (k + mc) (j + ms) (x_Q X) (F0 (x_m X) (pc + 3) ls ((rv u).toList ++ rest))) :
    W (x_p X) (x_l X) (x_e X) (x_R X) (x_s X) (x_m X) (x_a X) (x_b X) (x_M X) (x_c X) H locs k j (x_Q X) (F0 (x_m X) pc ls st0) := by
  have hF := va_free hD hS C.A isC hC
  have keep : ∀ (T' t : State) (L : List Loc), T'.heap = t.heap → (∀ q ∈ L, va_A wc H.size q.base) → H.size ≤ t.heap.size → (∀ q : Nat, q < H.size → ¬ va_A wc H.size q → t.heap[q]? = H[q]?) → va_S (x_A X) (x_s X).heap T'.heap (locs ++ L) := fun T' t L e1 hL hz hk =>
    ⟨Nat.le_trans hS.1 (by rw [e1]; exact hz), fun q h1 h2 => by rw [e1, hk q (Nat.lt_of_lt_of_le h1 hS.1) (fun z => h2 (hF q z))]; exact hS.2.1 q h1 h2, fun q hq => by
      rcases List.mem_append.mp hq with h | h
      · exact hS.2.2 q h
      · exact hF _ (hL q h)⟩
  intro T hT Y
  rcases hr T hT Y with ⟨v, st₀, t, T', L, h0, Y', hL, e1, e2, ⟨⟨u, hv, hp, hb, hd⟩, hz, hk⟩, go⟩ | ⟨q, st₀, t, T', L, E, ce, h0, Y', hL, e1, e2, ⟨⟨v, hE, hp, hb, hd⟩, hz, hk⟩, hce, hcv, hcl, go⟩
  · cases hv
    rw [h0] at hz hk
    obtain ⟨t2, a1, b1⟩ := kk u T'.heap (locs ++ L) hp (by rw [e1]; exact hb) hd (fun q h1 h2 => by rw [e1]; exact hk q h1 h2) (keep T' t L e1 hL hz hk) T' rfl Y'
    exact ⟨t2, go t2 a1, b1⟩
  · rw [h0] at hz hk
    subst hE
    obtain ⟨t2, a1, b1⟩ := kx v T'.heap (locs ++ L) ce q hp (by rw [e1]; exact hb) hd (fun q h1 h2 => by rw [e1]; exact hk q h1 h2) (keep T' t L e1 hL hz hk) (by rw [e1]; exact hce) hcv hcl T' rfl Y'
    exact ⟨t2, go.trans a1, b1⟩
/-- a thrown thing goes on to the caller -/
theorem w_outX (C : Cx X cc own Ts ret n rm) {V : Type} {okx : V → Prop} {ex : V → String} {wx : V → va_W} (hT : Thr X okx ex wx) (htab : ∀ x ∈ (x_c X).exceptionTable.toList, False) {H1 : Heap} {locs1 : List Loc} {ls : Array Slot} {rest : List Value} {ce : Cell} {q9 : Addr} {k2 j2 : Nat} (hk : k2 ≤ rm.cells) (hj : j2 ≤ rm.slots) (v : V) (hok : okx v) (hP : va_P (g_D (x_G X)) vwCl (wx v) H1) (hD : va_D (x_A X) (wx v)) (hS : va_S (x_A X) (x_s X).heap H1 locs1) (hce : H1[q9]? = some ce) (hcv : ce.vm = .none) (hcl : (x_s X).vm.findClass (ex v) = some ce.cls) :
    vx_W (x_p X) (x_l X) (x_e X) (x_R X) (x_s X) (x_m X) (x_a X) (x_b X) (x_M X) (x_c X) H1 locs1 k2 j2 (x_Q X) (F0 (x_m X) pc ls rest) q9 := by
  obtain ⟨Qc, hQ⟩ := hT
  rw [hQ]
  exact vx_out (fun x hx => absurd (htab x hx) (fun z => z)) C.l hce hcv hcl (fun t ht hA => ⟨⟨v, rfl, hok, by rw [ht]; exact hP, hD⟩, hS.F ht⟩) hS.2.2 (by rw [C.R]; exact hk) (by rw [C.R]; exact hj)
theorem k_callVx (C : Cx X cc own Ts ret n rm) {S V V2 : Type} {ok : S → Prop} {rv : S → Option Value} {w1 : S → va_W} {okx : V → Prop} {ex : V → String} {wx : V → va_W} {okx2 : V2 → Prop} {ex2 : V2 → String} {wx2 : V2 → va_W} (hT : Thr X okx2 ex2 wx2) (htab : ∀ x ∈ (x_c X).exceptionTable.toList, False) {y : MethodName} {wsy ws' : List Cond} {rmy : Room} {b : Nat} (av : List Value) (nn : Nat) (hnn : av.length = nn) {wc : va_W} {bytes : ByteArray} {maxL ix : Nat} {rty : Option FieldType} {Cn : String}
    (hM : Cxt (x_l X) (x_G X) y wsy rmy (.ref b :: av) wc ok rv w1 okx ex wx) (hG : GoodIn Ts (wsV own ix Cn y wsy)) (hw : wsy = Cond.code y bytes maxL rty :: ws')
    (hdd : y.cls = Cn ∧ y.cls ≠ "java/lang/invoke/MethodHandle" ∧ y.cls ≠ "java/lang/invoke/VarHandle" ∧ (parseMethodDescriptor y.desc).map (fun d => d.parameters.length) = some nn) (hR : rmy.frames + 1 ≤ rm.frames ∧ 8 + (maxL + 11) + rmy.locals ≤ rm.locals)
    (q0 : Nat) {ci : Nat} {q : vw_C} {fs : List Value} (he : ws[q0]? = some (b, .inr (ci, fs))) (hc : vwCl[ci]? = some q) (hq : q.1 = Cn)
    (isC isR is : List Nat) (hnC : va_nd isC = true) (hC : isC.map (fun i => ws[i]?) = wc.map some) (rest : List Value) (hst : st = av.reverse ++ .ref b :: rest) (hW : (rest.map fun v => v.category).sum ≤ 8) (hroom : k + rmy.cells ≤ rm.cells ∧ j + rmy.slots ≤ rm.slots) (hd : decode cc pc = .ok (.invokevirtual ix, 3))
    (w' : S → va_W) (wx' : V → va_W) {wr : va_W} (j1 : isR.map (fun i => ws[i]?) = wr.map some) (j2' : va_nd isR = true) (j3 : ∀ i ∈ isR, i ∉ isC) (j4 : va_nd is = true) (j5 : ∀ u, is.map (fun i => (wr ++ w1 u)[i]?) = (w' u).map some) (j6 : ∀ v, is.map (fun i => (wr ++ wx v)[i]?) = (wx' v).map some)
    (st2 : S → List Value) (h9 : ∀ u, (rv u).toList ++ rest = st2 u) (k2 j2 : Nat) (h8 : k + rmy.cells = k2 ∧ j + rmy.slots = j2)
    (kx : ∀ v : V, okx v → ∃ v2 : V2, ex2 v2 = ex v ∧ okx2 v2 ∧ wx2 v2 = wx' v)
    (kk : ∀ u : S, ok u → K_ X k2 j2 (w' u) (pc + 3) lo (st2 u)) : K_ X k j ws pc lo st := by
  intro H locs ls hP hD hS hl
  refine w_backX C hP hD hS isC hC (vx_runV (As := av) (b := b) C.F (hM H.size) (cwV nn C.w hG hw rfl rfl hdd (by rw [C.R]; exact hR)) ⟨Pg.blind, hq ▸ va_recv C.K hP hc he, fun U hU hW => pg_call C hP hD hS isC hnC hC hU hW⟩ rfl hnn hl.1 hst (lv_room hW) hd (room_ok C hroom)) (fun v H1 locs1 ce q9 ho hP1 hD1 hk1 hS1 hce hcv hcl => ?_) (fun u H1 locs1 ho hP1 hD1 hk1 hS1 => ?_)
  · obtain ⟨hP2, hD2⟩ := w_join C hP hD hS isC isR is hC j1 j2' j3 j4 (j6 v) hk1 hP1 hD1
    obtain ⟨v2, e1, e2, e3⟩ := kx v ho
    exact w_outX C hT htab hroom.1 hroom.2 v2 e2 (by rw [e3]; exact hP2) (by rw [e3]; exact hD2) hS1 hce hcv (by rw [e1]; exact hcl)
  · rw [h9 u, h8.1, h8.2]
    obtain ⟨hP2, hD2⟩ := w_join C hP hD hS isC isR is hC j1 j2' j3 j4 (j5 u) hk1 hP1 hD1
    exact kk u ho H1 locs1 ls hP2 hD2 hS1 hl
theorem k_callSx (C : Cx X cc own Ts ret n rm) {S V V2 : Type} {ok : S → Prop} {rv : S → Option Value} {w1 : S → va_W} {okx : V → Prop} {ex : V → String} {wx : V → va_W} {okx2 : V2 → Prop} {ex2 : V2 → String} {wx2 : V2 → va_W} (hT : Thr X okx2 ex2 wx2) (htab : ∀ x ∈ (x_c X).exceptionTable.toList, False) {y : MethodName} {wsy ws' : List Cond} {rmy : Room} (av : List Value) (nn : Nat) (hnn : av.length = nn) {wc : va_W} {bytes : ByteArray} {maxL ix : Nat} {rty : Option FieldType}
    (hM : Cxt (x_l X) (x_G X) y wsy rmy av wc ok rv w1 okx ex wx) (hG : GoodIn Ts (va_wsS own ix y wsy)) (hw : wsy = Cond.code y bytes maxL rty :: ws')
    (hdd : y.cls ≠ "java/lang/invoke/MethodHandle" ∧ y.cls ≠ "java/lang/invoke/VarHandle" ∧ (parseMethodDescriptor y.desc).map (fun d => d.parameters.length) = some nn) (hR : rmy.frames + 1 ≤ rm.frames ∧ 8 + (maxL + 11) + rmy.locals ≤ rm.locals)
    (isC isR is : List Nat) (hnC : va_nd isC = true) (hC : isC.map (fun i => ws[i]?) = wc.map some) (rest : List Value) (hst : st = av.reverse ++ rest) (hW : (rest.map fun v => v.category).sum ≤ 8) (hroom : k + rmy.cells ≤ rm.cells ∧ j + rmy.slots ≤ rm.slots) (hd : decode cc pc = .ok (.invokestatic ix, 3))
    (w' : S → va_W) (wx' : V → va_W) {wr : va_W} (j1 : isR.map (fun i => ws[i]?) = wr.map some) (j2' : va_nd isR = true) (j3 : ∀ i ∈ isR, i ∉ isC) (j4 : va_nd is = true) (j5 : ∀ u, is.map (fun i => (wr ++ w1 u)[i]?) = (w' u).map some) (j6 : ∀ v, is.map (fun i => (wr ++ wx v)[i]?) = (wx' v).map some)
    (st2 : S → List Value) (h9 : ∀ u, (rv u).toList ++ rest = st2 u) (k2 j2 : Nat) (h8 : k + rmy.cells = k2 ∧ j + rmy.slots = j2)
    (kx : ∀ v : V, okx v → ∃ v2 : V2, ex2 v2 = ex v ∧ okx2 v2 ∧ wx2 v2 = wx' v)
    (kk : ∀ u : S, ok u → K_ X k2 j2 (w' u) (pc + 3) lo (st2 u)) : K_ X k j ws pc lo st := by
  intro H locs ls hP hD hS hl
  refine w_backX C hP hD hS isC hC (vx_runS (As := av) C.F (hM H.size) (va_cwS nn C.w hG hw rfl rfl hdd (by rw [C.R]; exact hR)) ⟨Pg.blind, fun U hU hW => pg_call C hP hD hS isC hnC hC hU hW⟩ rfl hnn hl.1 hst (lv_room hW) hd (room_ok C hroom)) (fun v H1 locs1 ce q9 ho hP1 hD1 hk1 hS1 hce hcv hcl => ?_) (fun u H1 locs1 ho hP1 hD1 hk1 hS1 => ?_)
  · obtain ⟨hP2, hD2⟩ := w_join C hP hD hS isC isR is hC j1 j2' j3 j4 (j6 v) hk1 hP1 hD1
    obtain ⟨v2, e1, e2, e3⟩ := kx v ho
    exact w_outX C hT htab hroom.1 hroom.2 v2 e2 (by rw [e3]; exact hP2) (by rw [e3]; exact hD2) hS1 hce hcv (by rw [e1]; exact hcl)
  · rw [h9 u, h8.1, h8.2]
    obtain ⟨hP2, hD2⟩ := w_join C hP hD hS isC isR is hC j1 j2' j3 j4 (j5 u) hk1 hP1 hD1
    exact kk u ho H1 locs1 ls hP2 hD2 hS1 hl
end KT
theorem tst_exw : ∀ w ∈ (vx_atS "StruckCounts" 48 "java/lang/IllegalArgumentException" exS).filter (fun w => !goodWord w), w ∈ Cond.castable "java/lang/IllegalArgumentException" "java/lang/IllegalArgumentException" :: exD.map Cond.declares := by decide +kernel
end
section
/-! making objects and arrays -/
section KN
variable {X : KX} {cc : ByteArray} {own : String} {Ts : List Cond} {ret : Option FieldType} {n : Nat} {rm : Room} {k j pc : Nat} {ws : va_W} {lo : List (Nat × Value)} {st : List Value}
theorem k_new (C : Cx X cc own Ts ret n rm) {Cn : String} {T : u_T} {N ci ix : Nat} (hin : ∀ w ∈ u_ws Cn T N, w ∈ Ts) (ty : Nat → FieldType) (hty : ∀ k, k < N → parseFieldDescriptor (T k).2.2.1 = some (ty k)) (i1 i2 i3 : Nat) (h1 : Ts[i1]? = some (.classLink own ix Cn)) (h2 : Ts[i2]? = some (.instantiable Cn N)) (h3 : Ts[i3]? = some (.initialized Cn)) (hc : vwCl[ci]? = some (Cn, T, N)) (fs : List Value) (hfs : ∀ j, j < N → defaultValue (ty j) = vp_V fs j)
    (hk : k + 1 ≤ rm.cells) (hj : j + N ≤ rm.slots) (hd : decode cc pc = .ok (.new ix, 3)) (kk : ∀ q : Nat, K_ X (k + 1) (j + N) (ws ++ [(q, .inr (ci, fs))]) (pc + 3) lo (.ref q :: st)) : K_ X k j ws pc lo st :=
  fun H locs ls hP hD hS hl => va_new C.e C.b C.w hin ty hty C.o (C.at i1 h1) (C.at i2 h2) (C.at i3 h3) C.K hP hD hS C.A hc hfs (by rw [C.R]; exact hk) (by rw [C.R]; exact hj) hd (fun q H1 hP1 hD1 hS1 => kk q H1 locs ls hP1 hD1 hS1 hl)
theorem arr_id {X : KX} {D : va_G} {cl : List vw_C} {tys : List (ClassId × FieldType)} {cA cB : ClassId} {ty : FieldType} {i : Nat} (h0 : ∀ Cn, ty ≠ .object Cn) (hK : va_K D cl (tys ++ [(cA, ty)]) (x_s X)) (hi : tys[i]? = some (cB, ty)) : cA = cB := by
  have h1 := (hK.2 tys.length (cA, ty) (by simp)).2
  have h2 := (hK.2 i (cB, ty) (by rw [List.getElem?_append_left (List.getElem?_eq_some_iff.mp hi).1]; exact hi)).2
  have g : ∀ c : ClassId, va_RA (x_s X) c ty → (x_s X).vm.findClass ("[" ++ ty.toString) = some c := fun c h => by
    cases ty with
    | object Cn => exact absurd rfl (h0 Cn)
    | _ => exact h
  have e1 := g _ h1
  have e2 := g _ h2
  rw [e1] at e2
  exact Option.some.inj e2
theorem k_newI (C : Cx X cc own Ts ret n rm) {z : Int} (N : Nat) (hz : z = (N : Int)) (hN : N < 100000000) (iw : Nat) (hw : Ts[iw]? = some (.arrayClass .int)) (hk : k + 1 ≤ rm.cells) (hj : j + N ≤ rm.slots) (hd : decode cc pc = .ok (.newarray .int, 2)) (kk : ∀ q : Nat, K_ X (k + 1) (j + N) (ws ++ [(q, .inl (g_I (x_G X), N, .inl (aI (fun _ => 0))))]) (pc + 2) lo (.ref q :: st)) : K_ X k j ws pc lo (.int (iI z) :: st) :=
  fun H locs ls hP hD hS hl => va_newa (atype := .int) (ty := .int) (a0 := (N, .inl (aI (fun _ => 0)))) C.e C.b (C.at iw hw) rfl C.K hP hD hS C.A (fun _ => rfl) (by rw [hz, ← nI_iI]; exact nI_pos (by omega)) (by rw [hz, ← nI_iI]; exact nI_clamp (by omega)) (show N * 4 ≤ _ by omega) (by rw [C.R]; exact hk) (by rw [C.R]; exact hj) hd (fun q cA H1 hK1 hP1 hD1 hS1 => by
    have e := arr_id (X := X) (i := 0) (fun _ h => by cases h) hK1 rfl
    subst e
    exact kk q H1 locs ls hP1 hD1 hS1 hl)
theorem k_newJ (C : Cx X cc own Ts ret n rm) {z : Int} (N : Nat) (hz : z = (N : Int)) (hN : N < 50000000) (iw : Nat) (hw : Ts[iw]? = some (.arrayClass .long)) (hk : k + 1 ≤ rm.cells) (hj : j + N ≤ rm.slots) (hd : decode cc pc = .ok (.newarray .long, 2)) (kk : ∀ q : Nat, K_ X (k + 1) (j + N) (ws ++ [(q, .inl (g_J (x_G X), N, .inr (.inl (aL (fun _ => 0)))))]) (pc + 2) lo (.ref q :: st)) : K_ X k j ws pc lo (.int (iI z) :: st) :=
  fun H locs ls hP hD hS hl => va_newa (atype := .long) (ty := .long) (a0 := (N, .inr (.inl (aL (fun _ => 0))))) C.e C.b (C.at iw hw) rfl C.K hP hD hS C.A (fun _ => rfl) (by rw [hz, ← nI_iI]; exact nI_pos (by omega)) (by rw [hz, ← nI_iI]; exact nI_clamp (by omega)) (show N * 8 ≤ _ by omega) (by rw [C.R]; exact hk) (by rw [C.R]; exact hj) hd (fun q cA H1 hK1 hP1 hD1 hS1 => by
    have e := arr_id (X := X) (i := 1) (fun _ h => by cases h) hK1 rfl
    subst e
    exact kk q H1 locs ls hP1 hD1 hS1 hl)
theorem k_newC (C : Cx X cc own Ts ret n rm) {z : Int} (N : Nat) (hz : z = (N : Int)) (hN : N < 100000000) (iw : Nat) (hw : Ts[iw]? = some (.arrayClass .char)) (hk : k + 1 ≤ rm.cells) (hj : j + N ≤ rm.slots) (hd : decode cc pc = .ok (.newarray .char, 2)) (kk : ∀ q : Nat, K_ X (k + 1) (j + N) (ws ++ [(q, .inl (g_C (x_G X), N, .inl (aI (fun _ => 0))))]) (pc + 2) lo (.ref q :: st)) : K_ X k j ws pc lo (.int (iI z) :: st) :=
  fun H locs ls hP hD hS hl => va_newa (atype := .char) (ty := .char) (a0 := (N, .inl (aI (fun _ => 0)))) C.e C.b (C.at iw hw) rfl C.K hP hD hS C.A (fun _ => rfl) (by rw [hz, ← nI_iI]; exact nI_pos (by omega)) (by rw [hz, ← nI_iI]; exact nI_clamp (by omega)) (show N * 2 ≤ _ by omega) (by rw [C.R]; exact hk) (by rw [C.R]; exact hj) hd (fun q cA H1 hK1 hP1 hD1 hS1 => by
    have e := arr_id (X := X) (i := 2) (fun _ h => by cases h) hK1 rfl
    subst e
    exact kk q H1 locs ls hP1 hD1 hS1 hl)
theorem k_newZ (C : Cx X cc own Ts ret n rm) {z : Int} (N : Nat) (hz : z = (N : Int)) (hN : N < 100000000) (iw : Nat) (hw : Ts[iw]? = some (.arrayClass .boolean)) (hk : k + 1 ≤ rm.cells) (hj : j + N ≤ rm.slots) (hd : decode cc pc = .ok (.newarray .boolean, 2)) (kk : ∀ q : Nat, K_ X (k + 1) (j + N) (ws ++ [(q, .inl (g_Z (x_G X), N, .inl (aI (fun _ => 0))))]) (pc + 2) lo (.ref q :: st)) : K_ X k j ws pc lo (.int (iI z) :: st) :=
  fun H locs ls hP hD hS hl => va_newa (atype := .boolean) (ty := .boolean) (a0 := (N, .inl (aI (fun _ => 0)))) C.e C.b (C.at iw hw) rfl C.K hP hD hS C.A (fun _ => rfl) (by rw [hz, ← nI_iI]; exact nI_pos (by omega)) (by rw [hz, ← nI_iI]; exact nI_clamp (by omega)) (show N * 1 ≤ _ by omega) (by rw [C.R]; exact hk) (by rw [C.R]; exact hj) hd (fun q cA H1 hK1 hP1 hD1 hS1 => by
    have e := arr_id (X := X) (i := 3) (fun _ h => by cases h) hK1 rfl
    subst e
    exact kk q H1 locs ls hP1 hD1 hS1 hl)
end KN
end
section
/-! what the rows hold, in words of numbers -/
theorem spA_sp {k : Nat} (h : k < 65) : spA k = (sp k : Int) := of_decide_eq_true (all_lt (N := 65) (P := fun k => decide (spA k = (sp k : Int))) (by decide +kernel) h)
def vA (fv : Nat → Int) (ts q : Int) : Int := if 0 ≤ q ∧ q < ts then fv q.toNat else 0
def rA (fr : Nat → Int) (ts p r : Int) : Int := if (0 ≤ p ∧ p < ts) ∧ 0 ≤ r ∧ r ≤ 3 then fr (4 * p + r).toNat else 0
def pI (n : Nat) (v : Int) : Int := if v < 1 then -1 else match plc n v.toNat with | some q => (q : Int) | none => -1
theorem pI_rng (n : Nat) (v : Int) : -1 ≤ pI n v := by
  unfold pI
  split
  · omega
  · split <;> omega
theorem pI_lo {n : Nat} {v : Int} (h : v < 1) : pI n v = -1 := if_pos h
theorem pI_nat (n v : Nat) (h : 1 ≤ v) : pI n (v : Int) = match plc n v with | some q => (q : Int) | none => -1 := by
  unfold pI; rw [if_neg (by omega), Int.toNat_natCast]
theorem pI_hi {n : Nat} {v : Int} (h : (n : Int) < v) : pI n v = -1 := by
  by_cases h1 : v < 1
  · exact pI_lo h1
  · obtain ⟨w, rfl⟩ := Int.eq_ofNat_of_zero_le (show 0 ≤ v by omega)
    rw [pI_nat n w (by omega), show plc n w = none from if_neg (by omega)]
theorem pI_bad {n : Nat} {v d : Int} (h1 : 1 ≤ v) (hd : d = (n : Int) / v) (h : (d < 1 ∨ ¬ (n : Int) / d = v)) : pI n v = -1 := by
  obtain ⟨w, rfl⟩ := Int.eq_ofNat_of_zero_le (show 0 ≤ v by omega)
  rw [pI_nat n w (by omega)]
  rw [← Int.natCast_ediv] at hd
  have : ¬ (1 ≤ w ∧ w ≤ n ∧ n / (n / w) = w) := by
    rintro ⟨a, b, c⟩
    rcases h with h | h
    · have := Nat.div_pos b (by omega)
      omega
    · apply h
      rw [hd, ← Int.natCast_ediv, c]
  rw [show plc n w = none from if_neg this]
theorem pI_ok {n : Nat} {v d : Int} (h1 : 1 ≤ v) (h2 : v ≤ n) (hd : d = (n : Int) / v) (h : (n : Int) / d = v) : pI n v = if v ≤ d then (SZ n : Int) - v else d - 1 := by
  obtain ⟨w, rfl⟩ := Int.eq_ofNat_of_zero_le (show 0 ≤ v by omega)
  rw [← Int.natCast_ediv] at hd
  rw [hd, ← Int.natCast_ediv] at h
  have hp := Nat.div_pos (show w ≤ n by omega) (show 0 < w by omega)
  have c : n / (n / w) = w := by omega
  have hs : plc n w = some (if w ≤ n / w then SZ n - w else n / w - 1) := if_pos ⟨by omega, by omega, c⟩
  have hlt := (plc_some (by omega) hs)
  rw [pI_nat n w (by omega), hs, hd]
  have hle : w ≤ n / w → w ≤ SZ n := fun e => by
    have := hlt.2
    rw [if_pos e] at this hlt
    rcases Nat.lt_or_ge (SZ n) w with z | z
    · have := qv_pos (n := n) (by omega) hlt.1
      rw [show SZ n - w = 0 by omega] at this hlt
      have h0 := qv_0 (n := n) (by omega)
      rw [hlt.2] at h0
      rw [h0, Nat.div_self (by omega)] at e
      have := SZ_pos (n := n) (by omega)
      omega
    · exact z
  by_cases e : w ≤ n / w
  · rw [if_pos e, if_pos (by omega)]
    have := hle e
    simp only []
    omega
  · rw [if_neg e, if_neg (by omega)]
    simp only []
    omega
theorem pI_lt {n : Nat} {v : Int} (hn : 1 ≤ n) : pI n v < (SZ n : Int) := by
  have hs := SZ_pos hn
  unfold pI
  split
  · omega
  · split
    · next q hq => have := (plc_some hn hq).1; omega
    · omega
def triA (v : Int) : Int := v * (v + 1) / 2
/-- the rests of the numbers up to v -/
theorem cR_0 (m r v : Nat) (hr : r < 4) : cR m 0 r v = if r = 0 then v / 4 else (v + 4 - r) / 4 := by
  unfold cR
  induction v with
  | zero =>
    rcases (show r = 0 ∨ r = 1 ∨ r = 2 ∨ r = 3 by omega) with rfl | rfl | rfl | rfl <;> rfl
  | succ w ih =>
    rw [ct_s, ih]
    rcases (show r = 0 ∨ r = 1 ∨ r = 2 ∨ r = 3 by omega) with rfl | rfl | rfl | rfl <;> simp [al] <;> split <;> omega
theorem sR_0 (m v : Nat) : 2 * sR m 0 v = v * (v + 1) := by
  unfold sR
  induction v with
  | zero => rfl
  | succ w ih =>
    rw [sm_s, Nat.mul_add, ih]
    simp only [al, if_true]
    rw [← Nat.add_mul, Nat.mul_comm (w + 2)]
/-- the tally of the bound n behind the first t primes, those of m striking -/
def TlOK (n t m : Nat) (tb ts : Int) (fv fr fs : Nat → Int) : Prop :=
  tb = (n : Int) ∧ ts = (SZ n : Int) ∧ ∀ q, q < SZ n → fv q = (qv n q : Int) ∧ (∀ r, r < 4 → fr (4 * q + r) = (cR m t r (qv n q) : Int)) ∧ fs q = (sR m t (qv n q) : Int)
end
section
/-! steps of the tally's loops -/
theorem iI_and3 (a : Int) : iI a &&& iI 3 = iI (a % 4) := iI_mask a 2 (by decide)
theorem iI_and31 (a : Int) : iI a &&& iI 31 = iI (a % 32) := iI_mask a 5 (by decide)
theorem mul_rng {a b A B : Int} (a0 : 0 ≤ a) (a1 : a ≤ A) (b0 : 0 ≤ b) (b1 : b ≤ B) : 0 ≤ a * b ∧ a * b ≤ A * B := ⟨Int.mul_nonneg a0 b0, Int.mul_le_mul a1 b1 b0 (by omega)⟩
theorem upI_4 {f g : Nat → Int} {q r k j : Nat} {x : Int} (hr : r < 4) (hj : j < 4) (hg : g = upI f (4 * q + r) x) : g (4 * k + j) = if k = q ∧ j = r then x else f (4 * k + j) := by
  rw [hg]; unfold upI
  by_cases h : k = q ∧ j = r
  · rw [if_pos h, if_pos (by omega)]
  · rw [if_neg h, if_neg (by omega)]
theorem cR_0i (m : Nat) {i v x : Int} (hi : 0 ≤ i ∧ i < 4) (hv : 0 ≤ v) (hx : x = if i = 0 then v / 4 else (v + 4 - i) / 4) : x = (cR m 0 i.toNat v.toNat : Int) := by
  obtain ⟨w, rfl⟩ := Int.eq_ofNat_of_zero_le hv
  obtain ⟨k, rfl⟩ := Int.eq_ofNat_of_zero_le hi.1
  rw [Int.toNat_natCast, Int.toNat_natCast, cR_0 m k w (by omega), hx]
  split <;> split <;> omega
theorem fill_step {f g fr : Nat → Int} {m P : Nat} {p i v x y : Int} (hp : p = (P : Int)) (hv : 0 ≤ v) (hi : 0 ≤ i ∧ i < 4) (hy : y = 4 * p + i) (hx : x = if i = 0 then v / 4 else (v + 4 - i) / 4)
    (hf : ∀ k j, j < 4 → f (4 * k + j) = if k = P ∧ (j : Int) < i then (cR m 0 j v.toNat : Int) else fr (4 * k + j)) (hg : g = upI f y.toNat x) : ∀ k j, j < 4 → g (4 * k + j) = if k = P ∧ (j : Int) < i + 1 then (cR m 0 j v.toNat : Int) else fr (4 * k + j) := by
  intro k j hj
  have hx := cR_0i m hi hv hx
  obtain ⟨r, rfl⟩ := Int.eq_ofNat_of_zero_le hi.1
  rw [show y.toNat = 4 * P + r by omega] at hg
  rw [upI_4 (by omega) hj hg, hf k j hj]
  by_cases h : k = P ∧ j = r
  · rw [if_pos h, if_pos ⟨h.1, by omega⟩, hx, h.2, Int.toNat_natCast]
  · rw [if_neg h]
    by_cases h2 : k = P ∧ (j : Int) < r
    · rw [if_pos h2, if_pos ⟨h2.1, by omega⟩]
    · rw [if_neg h2, if_neg (fun z => h2 ⟨z.1, by rcases z with ⟨z1, z2⟩; have : ¬ j = r := fun e => h ⟨z1, e⟩; omega⟩)]
theorem sR_0i (m : Nat) {v x y : Int} (hv : 0 ≤ v) (hy : y = v * (v + 1)) (hx : x = y / 2) : x = (sR m 0 v.toNat : Int) := by
  obtain ⟨w, rfl⟩ := Int.eq_ofNat_of_zero_le hv
  have h := sR_0 m w
  rw [Int.toNat_natCast]
  have e : ((w : Int) * ((w : Int) + 1)) = ((w * (w + 1) : Nat) : Int) := by rw [Int.natCast_mul, Int.natCast_add]; rfl
  rw [e, ← h] at hy
  omega
/-- the first q places are laid -/
def TlP (n q m : Nat) (fv fr fs : Nat → Int) : Prop := ∀ i, i < q → fv i = (qv n i : Int) ∧ (∀ r, r < 4 → fr (4 * i + r) = (cR m 0 r (qv n i) : Int)) ∧ fs i = (sR m 0 (qv n i) : Int)
theorem TlP_step {n q m : Nat} {fv fr fs fv2 fr2 fs2 : Nat → Int} {v : Int} (hv : v = (qv n q : Int)) (h : TlP n q m fv fr fs) (h1 : ∀ k, fv2 k = if k = q then v else fv k) (h2 : ∀ k j, j < 4 → fr2 (4 * k + j) = if k = q then (cR m 0 j v.toNat : Int) else fr (4 * k + j)) (h3 : ∀ k, fs2 k = if k = q then (sR m 0 v.toNat : Int) else fs k) : TlP n (q + 1) m fv2 fr2 fs2 := by
  intro i hi
  have ev : v.toNat = qv n q := by omega
  by_cases e : i = q
  · subst e
    refine ⟨by rw [h1, if_pos rfl, hv], fun r hr => by rw [h2 _ _ hr, if_pos rfl, ev], by rw [h3, if_pos rfl, ev]⟩
  · obtain ⟨a, b, c⟩ := h i (by omega)
    exact ⟨by rw [h1, if_neg e, a], fun r hr => by rw [h2 _ _ hr, if_neg e, b r hr], by rw [h3, if_neg e, c]⟩
theorem TlP_ok {n m : Nat} {tb ts : Int} {fv fr fs : Nat → Int} (h1 : tb = (n : Int)) (h2 : ts = (SZ n : Int)) (h : TlP n (SZ n) m fv fr fs) : TlOK n 0 m tb ts fv fr fs := ⟨h1, h2, h⟩
/-- what is left at a place, in words of the rows -/
theorem Tl_rA {n t m q : Nat} {tb ts : Int} {fv fr fs : Nat → Int} (h : TlOK n t m tb ts fv fr fs) (hq : q < SZ n) {r : Nat} (hr : r < 4) : rA fr ts (q : Int) (r : Int) = (cR m t r (qv n q) : Int) := by
  unfold rA
  rw [if_pos (by have := h.2.1; omega), ← (h.2.2 q hq).2.1 r hr]
  congr 1
theorem Tl_cnt {n t m q : Nat} {tb ts : Int} {fv fr fs : Nat → Int} (h : TlOK n t m tb ts fv fr fs) (hq : q < SZ n) : rA fr ts (q : Int) 0 + rA fr ts (q : Int) 1 + rA fr ts (q : Int) 2 + rA fr ts (q : Int) 3 = (cA m t (qv n q) : Int) := by
  have e0 := Tl_rA h hq (r := 0) (by omega)
  have e1 := Tl_rA h hq (r := 1) (by omega)
  have e2 := Tl_rA h hq (r := 2) (by omega)
  have e3 := Tl_rA h hq (r := 3) (by omega)
  have s := cR_sum m t (qv n q)
  rw [show ((0 : Nat) : Int) = 0 from rfl] at e0
  rw [show ((1 : Nat) : Int) = 1 from rfl] at e1
  rw [show ((2 : Nat) : Int) = 2 from rfl] at e2
  rw [show ((3 : Nat) : Int) = 3 from rfl] at e3
  omega
theorem rA_out {fr : Nat → Int} {ts p r : Int} (h : ¬ (0 ≤ p ∧ p < ts)) : rA fr ts p r = 0 := if_neg (fun z => h z.1)
theorem Tl_vA {n t m : Nat} {tb ts q : Int} {fv fr fs : Nat → Int} (h : TlOK n t m tb ts fv fr fs) (hq : 0 ≤ q ∧ q < ts) : vA fv ts q = (qv n q.toNat : Int) := by
  unfold vA; rw [if_pos hq]; exact (h.2.2 q.toNat (by have := h.2.1; omega)).1
theorem Tl_sA {n t m : Nat} {tb ts q : Int} {fv fr fs : Nat → Int} (h : TlOK n t m tb ts fv fr fs) (hq : 0 ≤ q ∧ q < ts) : vA fs ts q = (sR m t (qv n q.toNat) : Int) := by
  unfold vA; rw [if_pos hq]; exact (h.2.2 q.toNat (by have := h.2.1; omega)).2.2
/-- striking: the places ahead of i are done -/
def TlR (n t m i : Nat) (fr fs : Nat → Int) : Prop := ∀ k, k < SZ n → (∀ r, r < 4 → fr (4 * k + r) = if k < i then (cR m (t + 1) r (qv n k) : Int) else (cR m t r (qv n k) : Int)) ∧ fs k = if k < i then (sR m (t + 1) (qv n k) : Int) else (sR m t (qv n k) : Int)
theorem TlR_0 {n t m : Nat} {tb ts : Int} {fv fr fs : Nat → Int} (h : TlOK n t m tb ts fv fr fs) : TlR n t m 0 fr fs := fun k hk => ⟨fun r hr => by rw [if_neg (Nat.not_lt_zero _)]; exact (h.2.2 k hk).2.1 r hr, by rw [if_neg (Nat.not_lt_zero _)]; exact (h.2.2 k hk).2.2⟩
theorem TlR_end {n t m i : Nat} {tb ts : Int} {fv fr0 fs0 fr fs : Nat → Int} (hn : 1 ≤ n) (ht : t < 65) (hb : m.testBit t = true) (h0 : TlOK n t m tb ts fv fr0 fs0) (h : TlR n t m i fr fs) (hi : i < SZ n → qv n i < sp t) : TlOK n (t + 1) m tb ts fv fr fs := by
  refine ⟨h0.1, h0.2.1, fun k hk => ?_⟩
  obtain ⟨a, b⟩ := h k hk
  refine ⟨(h0.2.2 k hk).1, fun r hr => ?_, ?_⟩
  · rw [a r hr]
    by_cases e : k < i
    · rw [if_pos e]
    · rw [if_neg e]
      have hv : qv n k < sp t := by
        have := hi (by omega)
        by_cases e2 : k = i
        · rw [e2]; exact this
        · have := qv_anti hn (q := i) (r := k) (by omega) hk; omega
      have s := cR_step ht hb r (qv n k)
      rw [Nat.div_eq_of_lt hv] at s
      rw [← s]; rfl
  · rw [b]
    by_cases e : k < i
    · rw [if_pos e]
    · rw [if_neg e]
      have hv : qv n k < sp t := by
        have := hi (by omega)
        by_cases e2 : k = i
        · rw [e2]; exact this
        · have := qv_anti hn (q := i) (r := k) (by omega) hk; omega
      have s := sR_step ht hb (qv n k)
      rw [Nat.div_eq_of_lt hv] at s
      rw [← s, show sR m t 0 = 0 from rfl, Nat.mul_zero, Nat.add_zero]
/-- what the inner loop has taken from the rest j, r rests through -/
def tk (fr : Nat → Int) (p s j : Nat) : Nat → Int
  | 0 => 0
  | r + 1 => tk fr p s j r + if p * r % 4 = j then fr (4 * s + r) else 0
theorem tk_step {f g fr : Nat → Int} {p s i r w : Nat} {x y : Int} (hs : s ≠ i) (hr : r < 4) (hf : ∀ k j, j < 4 → f (4 * k + j) = fr (4 * k + j) - if k = i then tk fr p s j r else 0) (hw : w = p * r % 4) (hy : y.toNat = 4 * i + w) (hx : x = f (4 * i + w) - f (4 * s + r)) (hg : g = upI f y.toNat x) : ∀ k j, j < 4 → g (4 * k + j) = fr (4 * k + j) - if k = i then tk fr p s j (r + 1) else 0 := by
  intro k j hj
  rw [hy] at hg
  rw [upI_4 (by omega) hj hg]
  have e1 := hf i w (by omega)
  have e2 := hf s r hr
  rw [if_pos rfl] at e1
  rw [if_neg hs] at e2
  by_cases h : k = i ∧ j = w
  · rw [if_pos h, hx, e1, e2, if_pos h.1]
    show _ = _ - (tk fr p s j r + _)
    rw [if_pos (by rw [← hw, h.2]), h.1, h.2]; omega
  · rw [if_neg h, hf k j hj]
    by_cases h2 : k = i
    · rw [if_pos h2, if_pos h2]
      show _ = _ - (tk fr p s j r + _)
      rw [if_neg (fun z => h ⟨h2, by rw [hw]; exact z.symm⟩)]; omega
    · rw [if_neg h2, if_neg h2]
theorem tk_4 {n t m i s : Nat} {fr fs : Nat → Int} (ht : t < 65) (hb : m.testBit t = true) (h : TlR n t m i fr fs) (hs : s < SZ n) (hsi : i ≤ s) (hq : qv n s = qv n i / sp t) {j : Nat} : (cR m t j (qv n i) : Int) - tk fr (sp t) s j 4 = (cR m (t + 1) j (qv n i) : Int) := by
  have st := cR_step ht hb j (qv n i)
  rw [cR_rests, ← hq] at st
  have g : ∀ r, r < 4 → fr (4 * s + r) = (cR m t r (qv n s) : Int) := fun r hr => by rw [(h s hs).1 r hr, if_neg (by omega)]
  have g0 := g 0 (by omega)
  have g1 := g 1 (by omega)
  have g2 := g 2 (by omega)
  have g3 := g 3 (by omega)
  simp only [tk]
  rw [g0, g1, g2, g3, ← st]
  simp only [Int.natCast_add]
  have c : ∀ (P : Prop) (dec : Decidable P) (a : Nat), (((if P then a else 0 : Nat)) : Int) = if P then (a : Int) else 0 := fun P dec a => by split <;> rfl
  rw [c, c, c, c]
  omega
theorem TlR_s {n t m i s : Nat} {fr fs fr2 fs2 : Nat → Int} {x : Int} (ht : t < 65) (hb : m.testBit t = true) (h : TlR n t m i fr fs) (hi : i < SZ n) (hs : s < SZ n) (hsi : i ≤ s) (hq : qv n s = qv n i / sp t) (h1 : ∀ k j, j < 4 → fr2 (4 * k + j) = fr (4 * k + j) - if k = i then tk fr (sp t) s j 4 else 0) (hx : x = fs i - (sp t : Int) * fs s) (h2 : fs2 = upI fs i x) : TlR n t m (i + 1) fr2 fs2 := by
  intro k hk
  obtain ⟨a, b⟩ := h k hk
  by_cases e : k = i
  · subst e
    refine ⟨fun r hr => ?_, ?_⟩
    · rw [h1 k r hr, if_pos rfl, if_pos (by omega), a r hr, if_neg (by omega)]
      exact tk_4 ht hb h hs hsi hq
    · rw [h2, upI_s, if_pos (by omega), hx, b, if_neg (by omega), (h s hs).2, if_neg (by omega)]
      have st := sR_step ht hb (qv n k)
      rw [← hq] at st
      rw [← st, Int.natCast_add, Int.natCast_mul]; omega
  · refine ⟨fun r hr => ?_, ?_⟩
    · rw [h1 k r hr, if_neg e, a r hr]
      by_cases z : k < i
      · rw [if_pos z, if_pos (by omega)]; omega
      · rw [if_neg z, if_neg (by omega)]; omega
    · rw [h2, upI_n e, b]
      by_cases z : k < i
      · rw [if_pos z, if_pos (by omega)]
      · rw [if_neg z, if_neg (by omega)]
/-- the source of a place -/
theorem src_of {n t i : Nat} (hn : 1 ≤ n) (hi : i < SZ n) (ht : t < 65) (h : sp t ≤ qv n i) : ∃ s : Nat, pI n ((qv n i : Int) / (sp t : Int)) = (s : Int) ∧ s < SZ n ∧ i < s ∧ qv n s = qv n i / sp t := by
  have h2 := sp_ge2 ht
  obtain ⟨s, a, b, c⟩ := plc_sub hn hi (show 1 ≤ sp t by omega) h
  have d1 : 1 ≤ qv n i / sp t := Nat.div_pos h (by omega)
  refine ⟨s, ?_, b, ?_, c⟩
  · rw [← Int.natCast_ediv, pI_nat n _ d1, a]
  · have lt : qv n i / sp t < qv n i := Nat.div_lt_self (by omega) h2
    rcases Nat.lt_or_ge i s with z | z
    · exact z
    · by_cases e : s = i
      · rw [e] at c; omega
      · have := qv_anti hn (q := s) (r := i) (by omega) hi; omega
theorem dvr_ub (n q : Nat) : dvr n q ≤ n + 1 := by
  unfold dvr
  split
  · next h =>
    obtain ⟨a, b, c⟩ := sq_spec n
    rcases Nat.lt_or_ge (sq n) 2 with z | z
    · omega
    · have := Nat.mul_le_mul_left (sq n) (show 1 ≤ sq n - 1 by omega)
      omega
  · have := Nat.div_le_self n (SZ n - q + 1)
    omega
theorem Tl_vA_rng {n t m : Nat} {tb ts q : Int} {fv fr fs : Nat → Int} (hn : 1 ≤ n) (h : TlOK n t m tb ts fv fr fs) : 0 ≤ vA fv ts q ∧ vA fv ts q ≤ (n : Int) := by
  by_cases e : 0 ≤ q ∧ q < ts
  · rw [Tl_vA h e]
    have := qv_pos hn (show q.toNat < SZ n by have := h.2.1; omega)
    omega
  · unfold vA; rw [if_neg e]; omega
end
section
/-! out of the kit's laws (bits of longs), pasted -/
theorem wb_tb (n : Nat) : (lN n).toBitVec = BitVec.ofNat 64 n := rfl
theorem wb_inj {a b : Int64} (h : a.toBitVec = b.toBitVec) : a = b := Int64.toBitVec_inj.mp h
theorem wb_tn {n : Nat} (h : n < 2 ^ 64) : (lN n).toBitVec.toNat = n := by rw [wb_tb, BitVec.toNat_ofNat, Nat.mod_eq_of_lt h]
theorem wb_of (x : Int64) : ∃ n, n < 2 ^ 64 ∧ x = lN n := ⟨x.toBitVec.toNat, x.toBitVec.isLt, wb_inj (by rw [wb_tb]; simp)⟩
theorem wb_c : ∀ k, k < 64 → ((nI k).toInt64 &&& 63) = lN k := by decide +kernel
theorem wb_cu : ∀ k, k < 64 → ((nI k).toInt64.toUInt64 &&& Int64.toUInt64 63) = UInt64.ofNat k := by decide +kernel
theorem wb_sm : ∀ k, k < 64 → (BitVec.ofNat 64 k).smod 64 = BitVec.ofNat 64 k := by decide +kernel
theorem wb_lt2 {a b : Nat} (h : a < b) : 2 ^ a < 2 ^ b := Nat.pow_lt_pow_right (by decide) h
theorem wb_shr {n k : Nat} (hn : n < 2 ^ 64) (hk : k < 64) : ((lN n).toUInt64 >>> ((nI k).toInt64.toUInt64 &&& Int64.toUInt64 63)).toInt64 = lN (n / 2 ^ k) := by
  rw [wb_cu k hk]
  apply wb_inj
  apply BitVec.eq_of_toNat_eq
  show ((lN n).toUInt64 >>> UInt64.ofNat k).toNat = (BitVec.ofNat 64 _).toNat
  have h1 : (UInt64.ofNat k).toNat = k := by
    show (BitVec.ofNat 64 k).toNat = k
    rw [BitVec.toNat_ofNat, Nat.mod_eq_of_lt (by omega)]
  have h2 : (lN n).toUInt64.toNat = n := wb_tn hn
  rw [UInt64.toNat_shiftRight, h1, h2, Nat.mod_eq_of_lt hk, Nat.shiftRight_eq_div_pow, BitVec.toNat_ofNat, Nat.mod_eq_of_lt (Nat.lt_of_le_of_lt (Nat.div_le_self _ _) hn)]
theorem wb_shl (n : Nat) {k : Nat} (hk : k < 64) : lN n <<< ((nI k).toInt64 &&& 63) = lN (n * 2 ^ k) := by
  rw [wb_c k hk]
  apply wb_inj
  rw [Int64.toBitVec_shiftLeft, wb_tb, wb_tb, wb_tb, wb_sm k hk]
  apply BitVec.eq_of_toNat_eq
  rw [BitVec.shiftLeft_eq', BitVec.toNat_shiftLeft, BitVec.toNat_ofNat, BitVec.toNat_ofNat, BitVec.toNat_ofNat, Nat.mod_eq_of_lt (show k < 2 ^ 64 by omega), Nat.shiftLeft_eq, Nat.mul_mod, Nat.mod_mod, ← Nat.mul_mod]
theorem wb_and {a b : Nat} (ha : a < 2 ^ 64) (hb : b < 2 ^ 64) : lN a &&& lN b = lN (a &&& b) := by
  apply wb_inj
  rw [Int64.toBitVec_and, wb_tb, wb_tb, wb_tb]
  apply BitVec.eq_of_toNat_eq
  rw [BitVec.toNat_and, BitVec.toNat_ofNat, BitVec.toNat_ofNat, BitVec.toNat_ofNat, Nat.mod_eq_of_lt ha, Nat.mod_eq_of_lt hb, Nat.mod_eq_of_lt (Nat.and_lt_two_pow _ hb)]
theorem wb_or {a b : Nat} (ha : a < 2 ^ 64) (hb : b < 2 ^ 64) : lN a ||| lN b = lN (a ||| b) := by
  apply wb_inj
  rw [Int64.toBitVec_or, wb_tb, wb_tb, wb_tb]
  apply BitVec.eq_of_toNat_eq
  rw [BitVec.toNat_or, BitVec.toNat_ofNat, BitVec.toNat_ofNat, BitVec.toNat_ofNat, Nat.mod_eq_of_lt ha, Nat.mod_eq_of_lt hb, Nat.mod_eq_of_lt (Nat.or_lt_two_pow ha hb)]
theorem wb_mask {n k : Nat} (hn : n < 2 ^ 64) (hk : k < 64) : lN n &&& lN (2 ^ k - 1) = lN (n % 2 ^ k) := by
  rw [wb_and hn (by have := wb_lt2 hk; omega), Nat.and_two_pow_sub_one_eq_mod]
theorem wb_a1 {n : Nat} (hn : n < 2 ^ 64) : lN n &&& 1 = lN (n % 2) := wb_mask (k := 1) hn (by decide)
theorem wb_bit {n k : Nat} (hn : n < 2 ^ 64) (hk : k < 64) : ((lN n).toUInt64 >>> ((nI k).toInt64.toUInt64 &&& Int64.toUInt64 63)).toInt64 &&& 1 = lN (n / 2 ^ k % 2) := by
  rw [wb_shr hn hk, wb_a1 (Nat.lt_of_le_of_lt (Nat.div_le_self _ _) hn)]
theorem fb_andL (a b : Nat) : lN a &&& lN b = lN (a &&& b) := by
  apply Int64.toBitVec_inj.1
  show BitVec.ofNat 64 a &&& BitVec.ofNat 64 b = BitVec.ofNat 64 (a &&& b)
  apply BitVec.eq_of_getLsbD_eq
  intro i hi
  simp [hi]
theorem fb_orL (a b : Nat) : lN a ||| lN b = lN (a ||| b) := by
  apply Int64.toBitVec_inj.1
  show BitVec.ofNat 64 a ||| BitVec.ofNat 64 b = BitVec.ofNat 64 (a ||| b)
  apply BitVec.eq_of_getLsbD_eq
  intro i hi
  simp [hi]
theorem fb_xorL (a b : Nat) : lN a ^^^ lN b = lN (a ^^^ b) := by
  apply Int64.toBitVec_inj.1
  show BitVec.ofNat 64 a ^^^ BitVec.ofNat 64 b = BitVec.ofNat 64 (a ^^^ b)
  apply BitVec.eq_of_getLsbD_eq
  intro i hi
  simp [hi]
theorem fb_maskL (n k : Nat) : lN n &&& lN (2 ^ k - 1) = lN (n % 2 ^ k) := by rw [fb_andL, Nat.and_two_pow_sub_one_eq_mod]
end
section
/-! the board: a bound n, k primes that came, the mask m of those that struck -/
theorem jl_shr {m : Nat} {k : Int} (hm : m < 2 ^ 64) (h0 : 0 ≤ k) (h1 : k < 64) : ((jL (m : Int)).toUInt64 >>> ((iI k).toInt64.toUInt64 &&& Int64.toUInt64 63)).toInt64 = jL ((m / 2 ^ k.toNat : Nat) : Int) := by
  obtain ⟨w, rfl⟩ := Int.eq_ofNat_of_zero_le h0
  rw [← lN_jL, ← lN_jL, ← nI_iI, Int.toNat_natCast]
  exact wb_shr hm (by omega)
theorem jl_shl (m : Nat) {k : Int} (h0 : 0 ≤ k) (h1 : k < 64) : jL (m : Int) <<< ((iI k).toInt64 &&& 63) = jL ((m * 2 ^ k.toNat : Nat) : Int) := by
  obtain ⟨w, rfl⟩ := Int.eq_ofNat_of_zero_le h0
  rw [← lN_jL, ← lN_jL, ← nI_iI, Int.toNat_natCast]
  exact wb_shl m (by omega)
theorem jl_and (a b : Nat) : jL (a : Int) &&& jL (b : Int) = jL ((a &&& b : Nat) : Int) := by
  rw [← lN_jL, ← lN_jL, ← lN_jL]; exact fb_andL a b
theorem jl_or (a b : Nat) : jL (a : Int) ||| jL (b : Int) = jL ((a ||| b : Nat) : Int) := by
  rw [← lN_jL, ← lN_jL, ← lN_jL]; exact fb_orL a b
theorem jl_xor (a b : Nat) : jL (a : Int) ^^^ jL (b : Int) = jL ((a ^^^ b : Nat) : Int) := by
  rw [← lN_jL, ← lN_jL, ← lN_jL]; exact fb_xorL a b
theorem jl_and1 (a : Nat) : jL (a : Int) &&& jL 1 = jL ((a % 2 : Nat) : Int) := by
  rw [← Nat.and_one_is_mod]; exact jl_and a 1
def pA (k : Int) : Int := if 0 ≤ k ∧ k < 40 then spA k.toNat else -1
theorem pA_in {k : Nat} (h : k < 40) : pA (k : Int) = (sp k : Int) := by
  unfold pA; rw [if_pos (by omega), Int.toNat_natCast, spA_sp (by omega)]
theorem pA_rng (k : Int) : -1 ≤ pA k ∧ pA k ≤ 313 := by
  unfold pA
  split
  · next h =>
    rw [spA_sp (by omega)]
    have := sp_le (k := k.toNat) (by omega)
    omega
  · omega
/-- the next prime -/
def nxI (n k : Nat) : Int := if k < 40 ∧ sp k ≤ n then (sp k : Int) else -1
theorem nxI_pA {n k : Nat} (h : k ≤ 40) : nxI n k = if (n : Int) < pA k then -1 else pA k := by
  unfold nxI
  by_cases e : k < 40
  · rw [pA_in e]
    by_cases e2 : sp k ≤ n
    · rw [if_pos ⟨e, e2⟩, if_neg (by omega)]
    · rw [if_neg (fun z => e2 z.2), if_pos (by omega)]
  · have : pA (k : Int) = -1 := if_neg (by omega)
    rw [if_neg (fun z => e z.1), this, if_neg (by omega)]
theorem nxI_some {n k : Nat} (h : ¬ nxI n k = -1) : k < 40 ∧ sp k ≤ n ∧ nxI n k = (sp k : Int) := by
  unfold nxI at *
  by_cases e : k < 40 ∧ sp k ≤ n
  · rw [if_pos e]; exact ⟨e.1, e.2, rfl⟩
  · rw [if_neg e] at h; exact absurd rfl h
theorem nxI_rng (n k : Nat) : -1 ≤ nxI n k ∧ nxI n k ≤ 313 := by
  unfold nxI
  split
  · next h => have := sp_le (k := k) (by omega); omega
  · omega
theorem or_lt {m k : Nat} (h : m < 2 ^ k) : m ||| 2 ^ k < 2 ^ (k + 1) := Nat.or_lt_two_pow (Nat.lt_trans h (Nat.pow_lt_pow_right (by omega) (by omega))) (Nat.pow_lt_pow_right (by omega) (by omega))
theorem or_tb (m k j : Nat) : (m ||| 2 ^ k).testBit j = (m.testBit j || decide (j = k)) := by
  rw [Nat.testBit_or, Nat.testBit_two_pow]
  by_cases h : k = j
  · simp [h]
  · rw [decide_eq_false h, decide_eq_false (fun e => h e.symm)]
theorem TlOK_cong {n t m m2 : Nat} {tb ts : Int} {fv fr fs : Nat → Int} (h : TlOK n t m tb ts fv fr fs) (hm : ∀ j, j < t → m.testBit j = m2.testBit j) : TlOK n t m2 tb ts fv fr fs := by
  refine ⟨h.1, h.2.1, fun q hq => ?_⟩
  obtain ⟨a, b, c⟩ := h.2.2 q hq
  refine ⟨a, fun r hr => ?_, ?_⟩
  · rw [b r hr]; unfold cR
    rw [ct_cong (fun x _ _ => by rw [al_cong hm x])]
  · rw [c]; unfold sR
    rw [sm_cong (fun x _ _ => by rw [al_cong hm x])]
theorem TlOK_spare {n t m : Nat} {tb ts : Int} {fv fr fs : Nat → Int} (h : TlOK n t m tb ts fv fr fs) (hb : m.testBit t = false) : TlOK n (t + 1) m tb ts fv fr fs := by
  refine ⟨h.1, h.2.1, fun q hq => ?_⟩
  obtain ⟨a, b, c⟩ := h.2.2 q hq
  refine ⟨a, fun r hr => ?_, ?_⟩
  · rw [b r hr]; unfold cR
    exact congrArg (fun z : Nat => (z : Int)) (ct_cong (fun x _ _ => by rw [al_spare hb x]))
  · rw [c]; unfold sR
    exact congrArg (fun z : Nat => (z : Int)) (sm_cong (fun x _ _ => by rw [al_spare hb x]))
/-- a board's numbers; its tally is that of the first tl primes, or none -/
def BdS (n k m : Nat) (bd cm sk : Int) : Prop := bd = (n : Int) ∧ cm = (k : Int) ∧ sk = (m : Int) ∧ 1 ≤ n ∧ n ≤ 99999 ∧ k ≤ 40 ∧ m < 2 ^ k
def BdT (n k m : Nat) (tl tb ts : Int) (fv fr fs : Nat → Int) : Prop := tl = -1 ∨ ∃ t : Nat, t ≤ k ∧ tl = (t : Int) ∧ TlOK n t m tb ts fv fr fs
theorem m_lt {k m : Nat} (h : m < 2 ^ k) (hk : k ≤ 40) : m < 2 ^ 64 := Nat.lt_of_lt_of_le h (Nat.pow_le_pow_right (by omega) (by omega))
theorem BdT_next {n k m m2 : Nat} {tl tb ts : Int} {fv fr fs : Nat → Int} (h : BdT n k m tl tb ts fv fr fs) (hm : ∀ j, j < k → m.testBit j = m2.testBit j) : BdT n (k + 1) m2 tl tb ts fv fr fs := by
  rcases h with h | ⟨t, h1, h2, h3⟩
  · exact Or.inl h
  · exact Or.inr ⟨t, by omega, h2, TlOK_cong h3 fun j hj => hm j (by omega)⟩
theorem BdS_next {n k m : Nat} {bd cm sk cm2 sk2 s : Int} (h : BdS n k m bd cm sk) (hk : k < 40) (h1 : cm2 = cm + 1) (h2 : sk2 = if s = 0 then (m : Int) else ((m ||| 2 ^ k : Nat) : Int)) : BdS n (k + 1) (if s = 0 then m else m ||| 2 ^ k) bd cm2 sk2 := by
  obtain ⟨a, b, c, d, e, f, g⟩ := h
  refine ⟨a, by omega, ?_, d, e, by omega, ?_⟩
  · rw [h2]; split <;> rfl
  · split
    · exact Nat.lt_trans g (Nat.pow_lt_pow_right (by omega) (by omega))
    · exact or_lt g
/-- striking up to a number -/
def sjF (n : Nat) (most : Int) : Nat → Nat → Nat
  | 0, _ => 0
  | f + 1, k => if nxI n k ≠ -1 ∧ nxI n k ≤ most then sjF n most f (k + 1) + 1 else 0
def sj (n : Nat) (most : Int) (k : Nat) : Nat := sjF n most 40 k
def msk (m k : Nat) : Nat → Nat
  | 0 => m
  | j + 1 => msk m k j ||| 2 ^ (k + j)
def StoR (n : Nat) (most : Int) (k j : Nat) : Prop := (∀ i, i < j → nxI n (k + i) ≠ -1 ∧ nxI n (k + i) ≤ most) ∧ ¬ (nxI n (k + j) ≠ -1 ∧ nxI n (k + j) ≤ most)
theorem StoR_one {n : Nat} {most : Int} {k j j2 : Nat} (h : StoR n most k j) (h2 : StoR n most k j2) : j = j2 := by
  rcases Nat.lt_or_ge j j2 with z | z
  · exact absurd (h2.1 j z) h.2
  · rcases Nat.lt_or_ge j2 j with y | y
    · exact absurd (h.1 j2 y) h2.2
    · omega
theorem sjF_R {n : Nat} {most : Int} : ∀ (f k : Nat), 40 ≤ k + f → StoR n most k (sjF n most f k)
  | 0, k, h => ⟨fun i hi => absurd hi (Nat.not_lt_zero i), fun z => by have := (nxI_some z.1).1; omega⟩
  | f + 1, k, h => by
    unfold sjF
    by_cases e : nxI n k ≠ -1 ∧ nxI n k ≤ most
    · rw [if_pos e]
      obtain ⟨a, b⟩ := sjF_R (n := n) (most := most) f (k + 1) (by omega)
      refine ⟨fun i hi => ?_, ?_⟩
      · by_cases e2 : i = 0
        · rw [e2]; exact e
        · have := a (i - 1) (by omega)
          rw [show k + 1 + (i - 1) = k + i by omega] at this; exact this
      · rw [show k + (sjF n most f (k + 1) + 1) = k + 1 + sjF n most f (k + 1) by omega]; exact b
    · rw [if_neg e]
      exact ⟨fun i hi => absurd hi (Nat.not_lt_zero i), e⟩
theorem sj_R (n : Nat) (most : Int) (k : Nat) : StoR n most k (sj n most k) := sjF_R 40 k (by omega)
theorem sj_of {n : Nat} {most : Int} {k j : Nat} (h : StoR n most k j) : j = sj n most k := StoR_one h (sj_R n most k)
theorem sj_le (n : Nat) (most : Int) {k : Nat} (hk : k ≤ 40) : k + sj n most k ≤ 40 := by
  rcases Nat.lt_or_ge 40 (k + sj n most k) with z | z
  · have := (sj_R n most k).1 (40 - k) (by omega)
    have := (nxI_some this.1).1
    omega
  · exact z
theorem msk_tb (m k : Nat) : ∀ j i, (msk m k j).testBit i = (m.testBit i || decide (k ≤ i ∧ i < k + j))
  | 0, i => by
    have : ¬ (k ≤ i ∧ i < k + 0) := by omega
    rw [decide_eq_false this, Bool.or_false]; rfl
  | j + 1, i => by
    rw [show msk m k (j + 1) = msk m k j ||| 2 ^ (k + j) from rfl, or_tb, msk_tb m k j i, Bool.or_assoc]
    congr 1
    rw [Bool.eq_iff_iff]
    simp
    omega
theorem msk_lt {m k : Nat} (h : m < 2 ^ k) : ∀ j, msk m k j < 2 ^ (k + j)
  | 0 => h
  | j + 1 => or_lt (msk_lt h j)
theorem BdT_rng {n k m : Nat} {tl tb ts : Int} {fv fr fs : Nat → Int} (h : BdT n k m tl tb ts fv fr fs) : -1 ≤ tl ∧ tl ≤ (k : Int) := by
  rcases h with h | ⟨t, h1, h2, -⟩ <;> omega
end
section
/-! the row of primes: its making, counts, sums, ranks -/
def hit (p e : Nat) : Bool := decide (p * p / 2 ≤ e ∧ (e - p * p / 2) % p = 0)
def Cs : Nat → Nat → Bool
  | 0, e => decide (e ≠ 0)
  | t + 1, e => Cs t e && !(decide (2 < sp t) && hit (sp t) e)
def RowC (C : Nat → Bool) (fw : Nat → Int) : Prop := ∀ i, i < 782 → fw i = (bN (fun b => C (64 * i + b)) 64 : Int)
theorem RowC_cong {C D : Nat → Bool} {fw : Nat → Int} (h : RowC C fw) (hc : ∀ e, e < 50048 → C e = D e) : RowC D fw := fun i hi => by
  rw [h i hi, bN_cong (fun j hj => hc (64 * i + j) (by omega))]
theorem RowC_clear {C : Nat → Bool} {fw g : Nat → Int} {e0 : Nat} {q x : Int} (h : RowC C fw) (he : e0 < 50048) (hq : q.toNat = e0 / 64) (hx : x = (((fw q.toNat).toNat &&& (2 ^ (e0 % 64) ^^^ 18446744073709551615) : Nat) : Int)) (hg : g = upI fw q.toNat x) : RowC (fun e => C e && decide (e ≠ e0)) g := by
  intro i hi
  rw [hg]
  by_cases e : i = e0 / 64
  · rw [hq, e, upI_s, hx, hq, h _ (by omega), Int.toNat_natCast]
    congr 1
    have lt : bN (fun b => C (64 * (e0 / 64) + b)) 64 < 2 ^ 64 := bN_lt _ _
    refine bN_of (Nat.lt_of_le_of_lt Nat.and_le_left lt) fun j hj => ?_
    rw [Nat.testBit_and, bN_tb, Nat.testBit_xor, Nat.testBit_two_pow, show (18446744073709551615 : Nat) = 2 ^ 64 - 1 from rfl, Nat.testBit_two_pow_sub_one]
    simp only [hj, decide_true, Bool.true_and]
    congr 1
    by_cases e2 : e0 % 64 = j
    · rw [decide_eq_true e2, decide_eq_false (show ¬ (64 * (e0 / 64) + j ≠ e0) by omega)]; rfl
    · rw [decide_eq_false e2, decide_eq_true (show 64 * (e0 / 64) + j ≠ e0 by omega)]; rfl
  · rw [hq, upI_n e, h i hi]
    congr 1
    refine bN_cong fun j hj => ?_
    show C (64 * i + j) = (C (64 * i + j) && decide (64 * i + j ≠ e0))
    rw [decide_eq_true (show 64 * i + j ≠ e0 by omega), Bool.and_true]
theorem Cs_iff {t e : Nat} : Cs t e = true ↔ e ≠ 0 ∧ ∀ j, j < t → 2 < sp j → hit (sp j) e = false := by
  induction t with
  | zero => simp [Cs]
  | succ t ih =>
    show (Cs t e && !(decide (2 < sp t) && hit (sp t) e)) = true ↔ _
    rw [Bool.and_eq_true, ih]
    constructor
    · rintro ⟨⟨a, b⟩, c⟩
      refine ⟨a, fun j hj h2 => ?_⟩
      by_cases q : j = t
      · subst q; simpa [h2] using c
      · exact b j (by omega) h2
    · rintro ⟨a, b⟩
      refine ⟨⟨a, fun j hj h2 => b j (by omega) h2⟩, ?_⟩
      by_cases h2 : 2 < sp t
      · simp [b t (by omega) h2]
      · simp [h2]
theorem Cs_prime {e : Nat} (he : e < 50048) : Cs 65 e = isP (od e) := by
  rw [Bool.eq_iff_iff, Cs_iff]
  constructor
  · rintro ⟨h0, h⟩
    have hx : 2 ≤ od e := by unfold od; omega
    refine isP_iff.mpr ⟨hx, ?_⟩
    by_cases hn : lf (od e) = od e
    · exact hn
    · exfalso
      have hr := lf_root hx hn
      obtain ⟨l2, ld, -⟩ := lf_spec hx
      have hlt : lf (od e) < 317 := by
        rcases Nat.lt_or_ge (lf (od e)) 317 with z | z
        · exact z
        · have := Nat.mul_le_mul z z; unfold od at *; omega
      obtain ⟨j, hj, ej⟩ := sp_all hlt (lf_isP hx)
      rw [← ej] at ld hr l2
      have hp := sp_isP hj
      have hodd : sp j % 2 = 1 := by
        obtain ⟨c, hc⟩ := ld
        rcases Nat.mod_two_eq_zero_or_one (sp j) with z | z
        · exfalso
          have : od e % 2 = 0 := by rw [hc, Nat.mul_mod, z]; simp
          unfold od at this; omega
        · exact z
      have h2 : 2 < sp j := by omega
      have hh := h j hj h2
      obtain ⟨p, hp0⟩ : ∃ p, sp j = p := ⟨_, rfl⟩
      rw [hp0] at hodd h2 hh ld hr hp l2
      have pp : p * p % 2 = 1 := by rw [Nat.mul_mod, hodd]
      have le : p * p / 2 ≤ e := by unfold od at hr; omega
      have hd : p ∣ 2 * (e - p * p / 2) := by
        have e1 : 2 * (e - p * p / 2) = od e - p * p := by unfold od; omega
        rw [e1]
        exact Nat.dvd_sub ld ⟨p, rfl⟩
      have : p ∣ e - p * p / 2 := by
        rcases isP_mul hp hd with z | z
        · have := Nat.le_of_dvd (by decide) z; omega
        · exact z
      unfold hit at hh
      have := of_decide_eq_false hh
      exact this ⟨le, Nat.mod_eq_zero_of_dvd (by assumption)⟩
  · intro h
    refine ⟨fun z => by rw [z] at h; exact absurd h (by decide), fun j hj h2 => ?_⟩
    cases hh : hit (sp j) e with
    | false => rfl
    | true =>
      exfalso
      have h3 := of_decide_eq_true hh
      have hodd : sp j % 2 = 1 := by
        rcases Nat.mod_two_eq_zero_or_one (sp j) with z | z
        · have := isP_dvd (sp_isP hj) (Nat.le_refl 2) (Nat.dvd_of_mod_eq_zero z); omega
        · exact z
      obtain ⟨p, hp0⟩ : ∃ p, sp j = p := ⟨_, rfl⟩
      rw [hp0] at hodd h2 h3
      have pp : p * p % 2 = 1 := by rw [Nat.mul_mod, hodd]
      obtain ⟨le, hm⟩ := h3
      obtain ⟨s, hs⟩ := Nat.dvd_of_mod_eq_zero hm
      have hd : p ∣ od e := by
        refine ⟨p + 2 * s, ?_⟩
        have : p * (p + 2 * s) = p * p + 2 * (p * s) := by rw [Nat.mul_add, Nat.mul_left_comm]
        rw [this, ← hs]; unfold od; omega
      have e2 := isP_dvd h (by omega) hd
      have big : 3 * p ≤ p * p := Nat.mul_le_mul_right p (by omega)
      unfold od at *; omega
theorem RowC_row {fw : Nat → Int} (h : RowC (Cs 65) fw) : RowOK fw := fun i hi => by
  rw [h i hi, wd, bN_cong (fun j hj => Cs_prime (e := 64 * i + j) (by omega))]
/-- the inner loop of the sieve: what lies below cur is struck -/
def Ci (t cur e : Nat) : Bool := Cs t e && !(hit (sp t) e && decide (e < cur))
theorem Ci_0 (t e : Nat) : Ci t (sp t * sp t / 2) e = Cs t e := by
  unfold Ci hit
  have : (decide (sp t * sp t / 2 ≤ e ∧ (e - sp t * sp t / 2) % sp t = 0) && decide (e < sp t * sp t / 2)) = false := by
    rw [Bool.and_eq_false_iff]
    rcases Nat.lt_or_ge e (sp t * sp t / 2) with z | z
    · left; exact decide_eq_false (by omega)
    · right; exact decide_eq_false (by omega)
  rw [this]; simp
theorem Ci_step {t cur : Nat} (ht : 2 ≤ sp t) (h1 : sp t * sp t / 2 ≤ cur) (h2 : (cur - sp t * sp t / 2) % sp t = 0) (e : Nat) : Ci t (cur + sp t) e = (Ci t cur e && decide (e ≠ cur)) := by
  unfold Ci
  rw [Bool.and_assoc]
  congr 1
  by_cases h : hit (sp t) e = true
  · rw [h]
    have hh := of_decide_eq_true h
    obtain ⟨p, hp⟩ : ∃ p, sp t = p := ⟨_, rfl⟩
    obtain ⟨q, hq⟩ : ∃ q, sp t * sp t / 2 = q := ⟨_, rfl⟩
    rw [hq] at hh h1 h2
    rw [hp] at hh h2 ht ⊢
    obtain ⟨a, ha⟩ := Nat.dvd_of_mod_eq_zero hh.2
    obtain ⟨b, hb⟩ := Nat.dvd_of_mod_eq_zero h2
    have key : (e < cur + p) ↔ (e < cur ∨ e = cur) := by
      constructor
      · intro z
        rcases Nat.lt_or_ge a (b + 1) with y | y
        · rcases Nat.lt_or_ge a b with x | x
          · left
            have := Nat.mul_le_mul_left p (show a + 1 ≤ b by omega)
            rw [Nat.mul_add, Nat.mul_one] at this; omega
          · right
            have : a = b := by omega
            rw [this] at ha; omega
        · have := Nat.mul_le_mul_left p y
          rw [Nat.mul_add, Nat.mul_one] at this; omega
      · rintro (z | z) <;> omega
    rw [Bool.eq_iff_iff]; simp; omega
  · have : hit (sp t) e = false := by simpa using h
    have hne : e ≠ cur := fun z => h (by rw [z]; exact decide_eq_true ⟨h1, h2⟩)
    rw [this, decide_eq_true hne]
    simp
theorem Ci_end {t cur e : Nat} (ht : 2 < sp t) (h : e < cur) : Ci t cur e = Cs (t + 1) e := by
  show _ = (Cs t e && !(decide (2 < sp t) && hit (sp t) e))
  unfold Ci; rw [decide_eq_true h, decide_eq_true ht]; simp
theorem Cs_2 {t e : Nat} (ht : ¬ 2 < sp t) : Cs (t + 1) e = Cs t e := by
  show (Cs t e && !(decide (2 < sp t) && hit (sp t) e)) = _
  rw [decide_eq_false ht]; simp
/-- one word's count under a mask -/
theorem blk {i x M : Nat} : popc (wdx i x &&& M) = ce (fun b => pb x (64 * i + b) && M.testBit ((64 * i + b) % 64)) 64 := ce_cong fun j hj => by
  rw [Nat.testBit_and, wdx, bN_tb, decide_eq_true hj, Bool.true_and, show (64 * i + j) % 64 = j by omega]
theorem pb_out {x e : Nat} (h : x < od e) : pb x e = false := by unfold pb; rw [decide_eq_false (by omega)]; simp
theorem ce_rest {P : Nat → Bool} {a n : Nat} (h : a ≤ n) (h0 : ∀ e, a ≤ e → e < n → P e = false) : ce P n = ce P a := by
  obtain ⟨c, rfl⟩ := Nat.le.dest h
  rw [ce_add, ce_0 (fun j hj => h0 (a + j) (by omega) (by omega))]; omega
theorem se_rest {g : Nat → Nat} {P : Nat → Bool} {a n : Nat} (h : a ≤ n) (h0 : ∀ e, a ≤ e → e < n → P e = false) : se g P n = se g P a := by
  obtain ⟨c, rfl⟩ := Nat.le.dest h
  rw [se_add]
  have : ∀ m, m ≤ c → se (fun b => g (a + b)) (fun b => P (a + b)) m = 0 := by
    intro m
    induction m with
    | zero => intro _; rfl
    | succ m ih =>
      intro hm
      show se _ _ m + _ = 0
      rw [ih (by omega)]; simp [h0 (a + m) (by omega) (by omega)]
  rw [this c (Nat.le_refl _)]; omega
theorem primes_ce {x : Nat} (hx : x ≤ 100096) : ct isP x = (if 2 ≤ x then 1 else 0) + ce (fun e => pb x e) 50048 := by
  have h := ct_odd (x := x) (fun _ => true) (N := 50048) (by omega)
  simp only [Bool.and_true] at h
  rw [show (fun y => isP y) = isP from rfl] at h
  rw [h]
  congr 1
  by_cases e : 2 ≤ x <;> simp [e]
theorem rest1_ce {x : Nat} (hx : x ≤ 100096) : ct (fun y => isP y && y % 4 == 1) x = ce (fun e => pb x e && (e % 2 == 0)) 50048 := by
  rw [ct_odd (fun y => y % 4 == 1) (N := 50048) (by omega)]
  rw [if_neg (by simp), Nat.zero_add]
  exact ce_cong fun j _ => by
    congr 1
    rw [Bool.eq_iff_iff]; unfold od; simp; omega
theorem rest3_ce {x : Nat} (hx : x ≤ 100096) : ct (fun y => isP y && y % 4 == 3) x = ce (fun e => pb x e && (e % 2 == 1)) 50048 := by
  rw [ct_odd (fun y => y % 4 == 3) (N := 50048) (by omega)]
  rw [if_neg (by simp), Nat.zero_add]
  exact ce_cong fun j _ => by
    congr 1
    rw [Bool.eq_iff_iff]; unfold od; simp; omega
theorem rest2_ce (x : Nat) : ct (fun y => isP y && y % 4 == 2) x = if 2 ≤ x then 1 else 0 := by
  rw [ct_odd (fun y => y % 4 == 2) (N := x) (by omega)]
  rw [ce_0 (fun j _ => by
    have : (od j % 4 == 2) = false := by unfold od; simp; omega
    rw [this]; simp)]
  by_cases e : 2 ≤ x <;> simp [e]
theorem rest0_ce (x : Nat) : ct (fun y => isP y && y % 4 == 0) x = 0 := by
  rw [ct_odd (fun y => y % 4 == 0) (N := x) (by omega)]
  rw [ce_0 (fun j _ => by
    have : (od j % 4 == 0) = false := by unfold od; simp; omega
    rw [this]; simp)]
  simp
theorem sum_se {x : Nat} : ∀ {N : Nat}, x ≤ 2 * N → sm (fun y => if isP y then y else 0) x = (if 2 ≤ x then 2 else 0) + se od (fun e => pb x e) N := by
  have h2 : isP 2 = true := by decide
  have hev : ∀ y, 2 < y → y % 2 = 0 → isP y = false := fun y h1 h3 => by
    cases e : isP y with
    | false => rfl
    | true => have := isP_dvd e (Nat.le_refl 2) (Nat.dvd_of_mod_eq_zero h3); omega
  induction x with
  | zero =>
    intro N _
    rw [se_rest (a := 0) (Nat.zero_le N) (fun j _ _ => pb_out (by unfold od; omega))]
    rfl
  | succ x ih =>
    intro N hN
    rw [sm_s, ih (N := N) (by omega)]
    rcases Nat.mod_two_eq_zero_or_one x with hx | hx
    · obtain ⟨e0, he0⟩ : ∃ e0, x = 2 * e0 := ⟨x / 2, by omega⟩
      have a1 : se od (fun e => pb (x + 1) e) N = se od (fun e => pb (x + 1) e) (e0 + 1) := se_rest (by omega) fun e h _ => pb_out (by unfold od; omega)
      have a2 : se od (fun e => pb x e) N = se od (fun e => pb x e) e0 := se_rest (by omega) fun e h _ => pb_out (by unfold od; omega)
      rw [a1, a2]
      show _ = _ + (se od (fun e => pb (x + 1) e) e0 + _)
      have a3 : se od (fun e => pb (x + 1) e) e0 = se od (fun e => pb x e) e0 := se_cong fun j hj => by
        unfold pb; rw [show decide (od j ≤ x + 1) = decide (od j ≤ x) from by unfold od; simp; omega]
      rw [a3]
      have o : od e0 = x + 1 := by unfold od; omega
      have hb0 : pb (x + 1) e0 = isP (x + 1) := by unfold pb; rw [o]; simp
      simp only [hb0, o]
      rw [if_cg (show 2 ≤ x + 1 ↔ 2 ≤ x by omega)]
      omega
    · have key : se od (fun e => pb (x + 1) e) N = se od (fun e => pb x e) N := se_cong fun j hj => by
        unfold pb; rw [show decide (od j ≤ x + 1) = decide (od j ≤ x) from by unfold od; simp; omega]
      rw [key]
      by_cases e : x = 1
      · subst e; rw [h2]; simp; omega
      · rw [hev (x + 1) (by omega) (by omega), if_cg (show 2 ≤ x + 1 ↔ 2 ≤ x by omega)]; simp
/-- the k-th prime is the only one with k primes up to it -/
theorem rank_one {a b k : Nat} (ha : isP a = true) (hb : isP b = true) (h1 : ct isP a = k) (h2 : ct isP b = k) : a = b := by
  have key : ∀ {a b : Nat}, isP b = true → a < b → ct isP a < ct isP b := fun {a b} hb h => by
    obtain ⟨c, rfl⟩ : ∃ c, b = c + 1 := ⟨b - 1, by omega⟩
    have := ct_mono isP (show a ≤ c by omega)
    rw [ct_s, if_pos hb]; omega
  rcases Nat.lt_or_ge a b with z | z
  · have := key hb z; omega
  · rcases Nat.lt_or_ge b a with y | y
    · have := key ha y; omega
    · omega
/-- a negative long as a great word -/
theorem jL_neg64 {w : Nat} (h : w ≤ 2 ^ 64) : jL (-(w : Int)) = jL ((2 ^ 64 - w : Nat) : Int) := by
  have h0 : jL (18446744073709551616 : Int) = 0 := by decide
  have e : ((2 ^ 64 - w : Nat) : Int) = -(w : Int) + 18446744073709551616 := by omega
  rw [e, ← jL_add, h0, Int64.add_zero]
theorem jl_low {w b : Nat} (hw : w < 2 ^ 64) (hb : w.testBit b = true) (h : ∀ j, j < b → w.testBit j = false) : jL (w : Int) &&& jL (-(w : Int)) = jL ((2 ^ b : Nat) : Int) := by
  rw [jL_neg64 (by omega), jl_and, low_one hw hb h]
theorem jl_clear {w : Nat} (hw : 1 ≤ w) : jL (w : Int) &&& jL ((w : Int) - 1) = jL ((w &&& (w - 1) : Nat) : Int) := by
  rw [show (w : Int) - 1 = ((w - 1 : Nat) : Int) by omega, jl_and]
theorem popc_0 : popc 0 = 0 := ce_0 fun j _ => Nat.zero_testBit j
theorem popc_pos {w : Nat} (h : popc w ≠ 0) : 1 ≤ w := by
  rcases Nat.eq_zero_or_pos w with z | z
  · rw [z, popc_0] at h; exact absurd rfl h
  · exact z
end
section
theorem bo_t {u : Int} {P : Prop} (h : (u = 1 ∧ P) ∨ (u = 0 ∧ ¬ P)) (c : ¬ u = 0) : P := by rcases h with ⟨a, b⟩ | ⟨a, b⟩; exact b; exact absurd a c
theorem bo_f {u : Int} {P : Prop} (h : (u = 1 ∧ P) ∨ (u = 0 ∧ ¬ P)) (c : u = 0) : ¬ P := by rcases h with ⟨a, b⟩ | ⟨a, b⟩; exact absurd (a.symm.trans c) (by decide); exact b

set_option maxHeartbeats 4000000 in
set_option maxRecDepth 100000 in
theorem c_X6_outside (l : Launch) (G : KG) (v lo hi : Int) (hv : -2147483648 ≤ v ∧ v < 2147483648) (hlo : -2147483648 ≤ lo ∧ lo < 2147483648) (hhi : -2147483648 ≤ hi ∧ hi < 2147483648) : Ct l G yX6_outside wsX6_outside (rmD 0 0 0) [.int (iI v), .int (iI lo), .int (iI hi)] [] (fun u : Int => (u = 1 ∧ (v < lo ∨ hi < v)) ∨ (u = 0 ∧ ¬ (v < lo ∨ hi < v))) (fun u : Int => some (.int (iI u))) (fun u : Int => []) := by
  refine Ct.of (cc := cX6_outside) (maxL := 3) (ret := (some .boolean)) (by decide +kernel) rfl (Nat.le_of_ble_eq_true rfl) ?_
  intro X C hG hL hnm hR
  subst hG
  subst hL
  have C : Cx X cX6_outside RX6 wsX6_outside (some .boolean) 3 (rmD 0 0 0) := C
  show K_ X 0 0 [] 0 [(0, .int (iI v)), (1, .int (iI lo)), (2, .int (iI hi))] []
  refine k_iload_n C 0 rfl dX6_outside_0 rfl ?_
  refine k_iload_n C 1 rfl dX6_outside_1 rfl ?_
  refine k_icmp_lt C 10 (⟨by omega, by omega⟩) (⟨by omega, by omega⟩) dX6_outside_2 (by decide) (fun c2 => ?_) (fun c2 => ?_)
  · skip
    refine k_iconst C dX6_outside_10 ?_
    refine k_goto C 15 dX6_outside_11 (by decide) ?_
    exact k_zret C hR (by omega) (u := 1) rfl (by omega) rfl (Nat.le_of_ble_eq_true rfl) (Nat.le_of_ble_eq_true rfl) dX6_outside_15
  · skip
    refine k_iload_n C 0 rfl dX6_outside_5 rfl ?_
    refine k_iload_n C 2 rfl dX6_outside_6 rfl ?_
    refine k_icmp_le C 14 (⟨by omega, by omega⟩) (⟨by omega, by omega⟩) dX6_outside_7 (by decide) (fun c7 => ?_) (fun c7 => ?_)
    · skip
      refine k_iconst C dX6_outside_14 ?_
      exact k_zret C hR (by omega) (u := 0) rfl (by omega) rfl (Nat.le_of_ble_eq_true rfl) (Nat.le_of_ble_eq_true rfl) dX6_outside_15
    · skip
      refine k_iconst C dX6_outside_10 ?_
      refine k_goto C 15 dX6_outside_11 (by decide) ?_
      exact k_zret C hR (by omega) (u := 1) rfl (by omega) rfl (Nat.le_of_ble_eq_true rfl) (Nat.le_of_ble_eq_true rfl) dX6_outside_15
theorem in_X3_has_X3 : ∀ w ∈ wsX30, w ∈ wsX3_has := by decide +kernel
set_option maxHeartbeats 4000000 in
set_option maxRecDepth 100000 in
theorem c_X3_has (l : Launch) (G : KG) (t va re su : Nat) (tb ts : Int) (q : Int) (hq : -2147483648 ≤ q ∧ q < 2147483648) (hts : 0 ≤ ts ∧ ts ≤ 631) : Ct l G yX3_has wsX3_has (rmD 0 0 0) [.ref t, .int (iI q)] [(t, .inr (3, [.ref va, .ref re, .ref su, .int (iI tb), .int (iI ts)]))] (fun u : Int => (u = 1 ∧ (0 ≤ q ∧ q < ts)) ∨ (u = 0 ∧ ¬ (0 ≤ q ∧ q < ts))) (fun u : Int => some (.int (iI u))) (fun u : Int => [(t, .inr (3, [.ref va, .ref re, .ref su, .int (iI tb), .int (iI ts)]))]) := by
  refine Ct.of (cc := cX3_has) (maxL := 2) (ret := (some .boolean)) (by decide +kernel) rfl (Nat.le_of_ble_eq_true rfl) ?_
  intro X C hG hL hnm hR
  subst hG
  subst hL
  have C : Cx X cX3_has RX3 wsX3_has (some .boolean) 2 (rmD 0 0 0) := C
  show K_ X 0 0 [(t, .inr (3, [.ref va, .ref re, .ref su, .int (iI tb), .int (iI ts)]))] 0 [(0, .ref t), (1, .int (iI q))] []
  refine k_iload_n C 1 rfl dX3_has_0 rfl ?_
  refine k_if_lt C 16 (⟨by omega, by omega⟩) dX3_has_1 (by decide) (fun c1 => ?_) (fun c1 => ?_)
  · skip
    refine k_iconst C dX3_has_16 ?_
    exact k_zret C hR (by omega) (u := 0) rfl (by omega) rfl (Nat.le_of_ble_eq_true rfl) (Nat.le_of_ble_eq_true rfl) dX3_has_17
  · skip
    refine k_iload_n C 1 rfl dX3_has_4 rfl ?_
    refine k_aload_n C 0 rfl dX3_has_5 rfl ?_
    refine k_get C (Cn := RX3) (T := TX3) (N := 5) (ci := 3) (ref := "StruckCounts$Tally") in_X3_has_X3 0 rfl rfl 4 (by decide) 1 rfl rfl (v := .int (iI ts)) rfl dX3_has_6 ?_
    refine k_icmp_ge C 16 (⟨by omega, by omega⟩) (⟨by omega, by omega⟩) dX3_has_9 (by decide) (fun c9 => ?_) (fun c9 => ?_)
    · skip
      refine k_iconst C dX3_has_16 ?_
      exact k_zret C hR (by omega) (u := 0) rfl (by omega) rfl (Nat.le_of_ble_eq_true rfl) (Nat.le_of_ble_eq_true rfl) dX3_has_17
    · skip
      refine k_iconst C dX3_has_12 ?_
      refine k_goto C 17 dX3_has_13 (by decide) ?_
      exact k_zret C hR (by omega) (u := 1) rfl (by omega) rfl (Nat.le_of_ble_eq_true rfl) (Nat.le_of_ble_eq_true rfl) dX3_has_17
theorem in_X3_valueAt_X3 : ∀ w ∈ wsX30, w ∈ wsX3_valueAt := by decide +kernel
set_option maxHeartbeats 4000000 in
set_option maxRecDepth 100000 in
theorem c_X3_valueAt (l : Launch) (G : KG) (t va re su : Nat) (tb ts : Int) (q : Int) (fv : Nat → Int) (hq : -2147483648 ≤ q ∧ q < 2147483648) (hts : 0 ≤ ts ∧ ts ≤ 631) : Ct l G yX3_valueAt wsX3_valueAt (rmD 1 0 0) [.ref t, .int (iI q)] [(t, .inr (3, [.ref va, .ref re, .ref su, .int (iI tb), .int (iI ts)])), (va, .inl (g_I G, 631, .inl (aI fv)))] (fun u : Int => u = vA fv ts q) (fun u : Int => some (.int (iI u))) (fun u : Int => [(t, .inr (3, [.ref va, .ref re, .ref su, .int (iI tb), .int (iI ts)])), (va, .inl (g_I G, 631, .inl (aI fv)))]) := by
  refine Ct.of (cc := cX3_valueAt) (maxL := 2) (ret := (some .int)) (by decide +kernel) rfl (Nat.le_of_ble_eq_true rfl) ?_
  intro X C hG hL hnm hR
  subst hG
  subst hL
  have C : Cx X cX3_valueAt RX3 wsX3_valueAt (some .int) 2 (rmD 1 0 0) := C
  show K_ X 0 0 [(t, .inr (3, [.ref va, .ref re, .ref su, .int (iI tb), .int (iI ts)])), (va, .inl (g_I (x_G X), 631, .inl (aI fv)))] 0 [(0, .ref t), (1, .int (iI q))] []
  refine k_aload_n C 0 rfl dX3_valueAt_0 rfl ?_
  refine k_iload_n C 1 rfl dX3_valueAt_1 rfl ?_
  refine k_callV C (y := yX3_has) [.int (iI q)] 1 rfl (c_X3_has (x_l X) (x_G X) t va re su tb ts q (by first | assumption | omega) (by first | assumption | omega)) gX3_valueAt_X3_has rfl ⟨rfl, by decide +kernel, by decide +kernel, by decide +kernel⟩ ⟨by decide, by decide⟩ 0 (fs := [.ref va, .ref re, .ref su, .int (iI tb), .int (iI ts)]) rfl rfl rfl [0] (by decide) (wc := [(t, .inr (3, [.ref va, .ref re, .ref su, .int (iI tb), .int (iI ts)]))]) rfl [] rfl (Nat.le_of_ble_eq_true rfl) ⟨Nat.le_of_ble_eq_true rfl, Nat.le_of_ble_eq_true rfl⟩ dX3_valueAt_2 (fun _ => [(t, .inr (3, [.ref va, .ref re, .ref su, .int (iI tb), .int (iI ts)])), (va, .inl (g_I (x_G X), 631, .inl (aI fv)))]) (Or.inl (fun _ => ⟨rfl, rfl⟩)) (fun u2 => [.int (iI u2)]) (fun _ => rfl) 0 0 ⟨rfl, rfl⟩ (fun u2 hu2 => ?_)
  refine k_if_eq C 17 (⟨by omega, by omega⟩) dX3_valueAt_5 (by decide) (fun c5 => ?_) (fun c5 => ?_)
  · skip
    have hu2 := bo_f hu2 c5
    refine k_iconst C dX3_valueAt_17 ?_
    exact k_iret C hR (u := 0) rfl (by unfold vA; rw [if_neg (by omega)]) rfl (Nat.le_of_ble_eq_true rfl) (Nat.le_of_ble_eq_true rfl) dX3_valueAt_18
  · skip
    have hu2 := bo_t hu2 c5
    refine k_aload_n C 0 rfl dX3_valueAt_8 rfl ?_
    refine k_get C (Cn := RX3) (T := TX3) (N := 5) (ci := 3) (ref := "StruckCounts$Tally") in_X3_valueAt_X3 0 rfl rfl 0 (by decide) 1 rfl rfl (v := .ref va) rfl dX3_valueAt_9 ?_
    refine k_iload_n C 1 rfl dX3_valueAt_12 rfl ?_
    refine k_iald C (f := fv) 1 rfl (⟨by omega, by omega⟩) (by decide) dX3_valueAt_13 ?_
    refine k_nmI (fun v13 e13 => ?_)
    refine k_goto C 18 dX3_valueAt_14 (by decide) ?_
    exact k_iret C hR (u := v13) rfl (by unfold vA; rw [if_pos (by omega)]; assumption) rfl (Nat.le_of_ble_eq_true rfl) (Nat.le_of_ble_eq_true rfl) dX3_valueAt_18
theorem in_X3_sumAt_X3 : ∀ w ∈ wsX30, w ∈ wsX3_sumAt := by decide +kernel
set_option maxHeartbeats 4000000 in
set_option maxRecDepth 100000 in
theorem c_X3_sumAt (l : Launch) (G : KG) (t va re su : Nat) (tb ts : Int) (q : Int) (fs : Nat → Int) (hq : -2147483648 ≤ q ∧ q < 2147483648) (hts : 0 ≤ ts ∧ ts ≤ 631) : Ct l G yX3_sumAt wsX3_sumAt (rmD 1 0 0) [.ref t, .int (iI q)] [(t, .inr (3, [.ref va, .ref re, .ref su, .int (iI tb), .int (iI ts)])), (su, .inl (g_J G, 631, .inr (.inl (aL fs))))] (fun u : Int => u = vA fs ts q) (fun u : Int => some (.long (jL u))) (fun u : Int => [(t, .inr (3, [.ref va, .ref re, .ref su, .int (iI tb), .int (iI ts)])), (su, .inl (g_J G, 631, .inr (.inl (aL fs))))]) := by
  refine Ct.of (cc := cX3_sumAt) (maxL := 2) (ret := (some .long)) (by decide +kernel) rfl (Nat.le_of_ble_eq_true rfl) ?_
  intro X C hG hL hnm hR
  subst hG
  subst hL
  have C : Cx X cX3_sumAt RX3 wsX3_sumAt (some .long) 2 (rmD 1 0 0) := C
  show K_ X 0 0 [(t, .inr (3, [.ref va, .ref re, .ref su, .int (iI tb), .int (iI ts)])), (su, .inl (g_J (x_G X), 631, .inr (.inl (aL fs))))] 0 [(0, .ref t), (1, .int (iI q))] []
  refine k_aload_n C 0 rfl dX3_sumAt_0 rfl ?_
  refine k_iload_n C 1 rfl dX3_sumAt_1 rfl ?_
  refine k_callV C (y := yX3_has) [.int (iI q)] 1 rfl (c_X3_has (x_l X) (x_G X) t va re su tb ts q (by first | assumption | omega) (by first | assumption | omega)) gX3_sumAt_X3_has rfl ⟨rfl, by decide +kernel, by decide +kernel, by decide +kernel⟩ ⟨by decide, by decide⟩ 0 (fs := [.ref va, .ref re, .ref su, .int (iI tb), .int (iI ts)]) rfl rfl rfl [0] (by decide) (wc := [(t, .inr (3, [.ref va, .ref re, .ref su, .int (iI tb), .int (iI ts)]))]) rfl [] rfl (Nat.le_of_ble_eq_true rfl) ⟨Nat.le_of_ble_eq_true rfl, Nat.le_of_ble_eq_true rfl⟩ dX3_sumAt_2 (fun _ => [(t, .inr (3, [.ref va, .ref re, .ref su, .int (iI tb), .int (iI ts)])), (su, .inl (g_J (x_G X), 631, .inr (.inl (aL fs))))]) (Or.inl (fun _ => ⟨rfl, rfl⟩)) (fun u2 => [.int (iI u2)]) (fun _ => rfl) 0 0 ⟨rfl, rfl⟩ (fun u2 hu2 => ?_)
  refine k_if_eq C 17 (⟨by omega, by omega⟩) dX3_sumAt_5 (by decide) (fun c5 => ?_) (fun c5 => ?_)
  · skip
    have hu2 := bo_f hu2 c5
    refine k_lconst C dX3_sumAt_17 0 (by decide) ?_
    exact k_lret C hR (u := 0) rfl (by unfold vA; rw [if_neg (by omega)]) rfl (Nat.le_of_ble_eq_true rfl) (Nat.le_of_ble_eq_true rfl) dX3_sumAt_18
  · skip
    have hu2 := bo_t hu2 c5
    refine k_aload_n C 0 rfl dX3_sumAt_8 rfl ?_
    refine k_get C (Cn := RX3) (T := TX3) (N := 5) (ci := 3) (ref := "StruckCounts$Tally") in_X3_sumAt_X3 0 rfl rfl 2 (by decide) 1 rfl rfl (v := .ref su) rfl dX3_sumAt_9 ?_
    refine k_iload_n C 1 rfl dX3_sumAt_12 rfl ?_
    refine k_lald C (f := fs) 1 rfl (⟨by omega, by omega⟩) (by decide) dX3_sumAt_13 ?_
    refine k_nmL (fun v13 e13 => ?_)
    refine k_goto C 18 dX3_sumAt_14 (by decide) ?_
    exact k_lret C hR (u := v13) rfl (by unfold vA; rw [if_pos (by omega)]; assumption) rfl (Nat.le_of_ble_eq_true rfl) (Nat.le_of_ble_eq_true rfl) dX3_sumAt_18
theorem in_X3_restAt_X3 : ∀ w ∈ wsX30, w ∈ wsX3_restAt := by decide +kernel
set_option maxHeartbeats 4000000 in
set_option maxRecDepth 100000 in
theorem c_X3_restAt (l : Launch) (G : KG) (t va re su : Nat) (tb ts : Int) (p r : Int) (fr : Nat → Int) (hp : -2147483648 ≤ p ∧ p < 2147483648) (hr : -2147483648 ≤ r ∧ r < 2147483648) (hts : 0 ≤ ts ∧ ts ≤ 631) : Ct l G yX3_restAt wsX3_restAt (rmD 1 0 0) [.ref t, .int (iI p), .int (iI r)] [(t, .inr (3, [.ref va, .ref re, .ref su, .int (iI tb), .int (iI ts)])), (re, .inl (g_I G, 2524, .inl (aI fr)))] (fun u : Int => u = rA fr ts p r) (fun u : Int => some (.int (iI u))) (fun u : Int => [(t, .inr (3, [.ref va, .ref re, .ref su, .int (iI tb), .int (iI ts)])), (re, .inl (g_I G, 2524, .inl (aI fr)))]) := by
  refine Ct.of (cc := cX3_restAt) (maxL := 3) (ret := (some .int)) (by decide +kernel) rfl (Nat.le_of_ble_eq_true rfl) ?_
  intro X C hG hL hnm hR
  subst hG
  subst hL
  have C : Cx X cX3_restAt RX3 wsX3_restAt (some .int) 3 (rmD 1 0 0) := C
  show K_ X 0 0 [(t, .inr (3, [.ref va, .ref re, .ref su, .int (iI tb), .int (iI ts)])), (re, .inl (g_I (x_G X), 2524, .inl (aI fr)))] 0 [(0, .ref t), (1, .int (iI p)), (2, .int (iI r))] []
  refine k_aload_n C 0 rfl dX3_restAt_0 rfl ?_
  refine k_iload_n C 1 rfl dX3_restAt_1 rfl ?_
  refine k_callV C (y := yX3_has) [.int (iI p)] 1 rfl (c_X3_has (x_l X) (x_G X) t va re su tb ts p (by first | assumption | omega) (by first | assumption | omega)) gX3_restAt_X3_has rfl ⟨rfl, by decide +kernel, by decide +kernel, by decide +kernel⟩ ⟨by decide, by decide⟩ 0 (fs := [.ref va, .ref re, .ref su, .int (iI tb), .int (iI ts)]) rfl rfl rfl [0] (by decide) (wc := [(t, .inr (3, [.ref va, .ref re, .ref su, .int (iI tb), .int (iI ts)]))]) rfl [] rfl (Nat.le_of_ble_eq_true rfl) ⟨Nat.le_of_ble_eq_true rfl, Nat.le_of_ble_eq_true rfl⟩ dX3_restAt_2 (fun _ => [(t, .inr (3, [.ref va, .ref re, .ref su, .int (iI tb), .int (iI ts)])), (re, .inl (g_I (x_G X), 2524, .inl (aI fr)))]) (Or.inl (fun _ => ⟨rfl, rfl⟩)) (fun u2 => [.int (iI u2)]) (fun _ => rfl) 0 0 ⟨rfl, rfl⟩ (fun u2 hu2 => ?_)
  refine k_if_eq C 30 (⟨by omega, by omega⟩) dX3_restAt_5 (by decide) (fun c5 => ?_) (fun c5 => ?_)
  · skip
    have hu2 := bo_f hu2 c5
    refine k_iconst C dX3_restAt_30 ?_
    exact k_iret C hR (u := 0) rfl (by unfold rA; rw [if_neg (by omega)]) rfl (Nat.le_of_ble_eq_true rfl) (Nat.le_of_ble_eq_true rfl) dX3_restAt_31
  · skip
    have hu2 := bo_t hu2 c5
    refine k_iload_n C 2 rfl dX3_restAt_8 rfl ?_
    refine k_iconst C dX3_restAt_9 ?_
    refine k_iconst C dX3_restAt_10 ?_
    refine k_callSN C (y := yX6_outside) [.int (iI r), .int (iI 0), .int (iI 3)] 3 rfl (c_X6_outside (x_l X) (x_G X) r 0 3 (by first | assumption | omega) (by first | assumption | omega) (by first | assumption | omega)) gX3_restAt_X6_outside_n48 rfl 4 rfl 9 8 rfl rfl ⟨by decide +kernel, by decide +kernel, by decide +kernel⟩ ⟨by decide, by decide⟩ [] (by decide) (wc := []) rfl [] rfl (Nat.le_of_ble_eq_true rfl) ⟨Nat.le_of_ble_eq_true rfl, Nat.le_of_ble_eq_true rfl⟩ dX3_restAt_11 (fun _ => [(t, .inr (3, [.ref va, .ref re, .ref su, .int (iI tb), .int (iI ts)])), (re, .inl (g_I (x_G X), 2524, .inl (aI fr)))]) (Or.inl (fun _ => ⟨rfl, rfl⟩)) (fun u11 => [.int (iI u11)]) (fun _ => rfl) 0 0 ⟨rfl, rfl⟩ (fun u11 hu11 => ?_)
    refine k_if_ne C 30 (⟨by omega, by omega⟩) dX3_restAt_14 (by decide) (fun c14 => ?_) (fun c14 => ?_)
    · skip
      have hu11 := bo_t hu11 c14
      refine k_iconst C dX3_restAt_30 ?_
      exact k_iret C hR (u := 0) rfl (by unfold rA; rw [if_neg (by omega)]) rfl (Nat.le_of_ble_eq_true rfl) (Nat.le_of_ble_eq_true rfl) dX3_restAt_31
    · skip
      have hu11 := bo_f hu11 c14
      refine k_aload_n C 0 rfl dX3_restAt_17 rfl ?_
      refine k_get C (Cn := RX3) (T := TX3) (N := 5) (ci := 3) (ref := "StruckCounts$Tally") in_X3_restAt_X3 0 rfl rfl 1 (by decide) 1 rfl rfl (v := .ref re) rfl dX3_restAt_18 ?_
      refine k_iconst C dX3_restAt_21 ?_
      refine k_iload_n C 1 rfl dX3_restAt_22 rfl ?_
      refine k_imul C dX3_restAt_23 ?_
      refine k_nmI (fun v23 e23 => ?_)
      refine k_iload_n C 2 rfl dX3_restAt_24 rfl ?_
      refine k_iadd C dX3_restAt_25 ?_
      refine k_nmI (fun v25 e25 => ?_)
      refine k_iald C (f := fr) 1 rfl (⟨by omega, by omega⟩) (by decide) dX3_restAt_26 ?_
      refine k_nmI (fun v26 e26 => ?_)
      refine k_goto C 31 dX3_restAt_27 (by decide) ?_
      exact k_iret C hR (u := v26) rfl (by unfold rA; rw [if_pos (by omega)]; rw [e26, e25, e23]) rfl (Nat.le_of_ble_eq_true rfl) (Nat.le_of_ble_eq_true rfl) dX3_restAt_31
set_option maxHeartbeats 4000000 in
set_option maxRecDepth 100000 in
theorem c_X3_countAt (l : Launch) (G : KG) (t va re su : Nat) (tb ts : Int) (p : Int) (fr : Nat → Int) (hp : -2147483648 ≤ p ∧ p < 2147483648) (hts : 0 ≤ ts ∧ ts ≤ 631) : Ct l G yX3_countAt wsX3_countAt (rmD 2 0 0) [.ref t, .int (iI p)] [(t, .inr (3, [.ref va, .ref re, .ref su, .int (iI tb), .int (iI ts)])), (re, .inl (g_I G, 2524, .inl (aI fr)))] (fun u : Int => u = rA fr ts p 0 + rA fr ts p 1 + rA fr ts p 2 + rA fr ts p 3) (fun u : Int => some (.int (iI u))) (fun u : Int => [(t, .inr (3, [.ref va, .ref re, .ref su, .int (iI tb), .int (iI ts)])), (re, .inl (g_I G, 2524, .inl (aI fr)))]) := by
  refine Ct.of (cc := cX3_countAt) (maxL := 4) (ret := (some .int)) (by decide +kernel) rfl (Nat.le_of_ble_eq_true rfl) ?_
  intro X C hG hL hnm hR
  subst hG
  subst hL
  have C : Cx X cX3_countAt RX3 wsX3_countAt (some .int) 4 (rmD 2 0 0) := C
  show K_ X 0 0 [(t, .inr (3, [.ref va, .ref re, .ref su, .int (iI tb), .int (iI ts)])), (re, .inl (g_I (x_G X), 2524, .inl (aI fr)))] 0 [(0, .ref t), (1, .int (iI p))] []
  refine k_iconst C dX3_countAt_0 ?_
  refine k_istore_n C (lo' := [(2, .int (iI 0)), (0, .ref t), (1, .int (iI p))]) dX3_countAt_1 rfl (by decide) rfl ?_
  refine k_iconst C dX3_countAt_2 ?_
  refine k_istore_n C (lo' := [(3, .int (iI 0)), (2, .int (iI 0)), (0, .ref t), (1, .int (iI p))]) dX3_countAt_3 rfl (by decide) rfl ?_
  have L4 : ∀ (nf : Nat) (cn : Int) (i : Int), ((i = 0 ∧ cn = 0) ∨ (i = 1 ∧ cn = rA fr ts p 0) ∨ (i = 2 ∧ cn = rA fr ts p 0 + rA fr ts p 1) ∨ (i = 3 ∧ cn = rA fr ts p 0 + rA fr ts p 1 + rA fr ts p 2) ∨ (i = 4 ∧ cn = rA fr ts p 0 + rA fr ts p 1 + rA fr ts p 2 + rA fr ts p 3)) → (4 - i).toNat < nf → K_ X 0 0 [(t, .inr (3, [.ref va, .ref re, .ref su, .int (iI tb), .int (iI ts)])), (re, .inl (g_I (x_G X), 2524, .inl (aI fr)))] 4 [(3, .int (iI i)), (2, .int (iI cn)), (0, .ref t), (1, .int (iI p))] [] := by
    intro nf
    induction nf with
    | zero => intro cn i hI hm; exact absurd hm (Nat.not_lt_zero _)
    | succ nf ih4 =>
      intro cn i hI4 hm4
      refine k_iload_n C 0 rfl dX3_countAt_4 rfl ?_
      refine k_iconst C dX3_countAt_5 ?_
      refine k_icmp_ge C 24 (⟨by omega, by omega⟩) (⟨by omega, by omega⟩) dX3_countAt_6 (by decide) (fun c6 => ?_) (fun c6 => ?_)
      · skip
        refine k_iload_n C 1 rfl dX3_countAt_24 rfl ?_
        exact k_iret C hR (u := cn) rfl (by omega) rfl (Nat.le_of_ble_eq_true rfl) (Nat.le_of_ble_eq_true rfl) dX3_countAt_25
      · skip
        refine k_iload_n C 1 rfl dX3_countAt_9 rfl ?_
        refine k_aload_n C 2 rfl dX3_countAt_10 rfl ?_
        refine k_iload_n C 3 rfl dX3_countAt_11 rfl ?_
        refine k_iload_n C 0 rfl dX3_countAt_12 rfl ?_
        refine k_callV C (y := yX3_restAt) [.int (iI p), .int (iI i)] 2 rfl (c_X3_restAt (x_l X) (x_G X) t va re su tb ts p i fr (by first | assumption | omega) (by first | assumption | omega) (by first | assumption | omega)) gX3_countAt_X3_restAt rfl ⟨rfl, by decide +kernel, by decide +kernel, by decide +kernel⟩ ⟨by decide, by decide⟩ 0 (fs := [.ref va, .ref re, .ref su, .int (iI tb), .int (iI ts)]) rfl rfl rfl [0, 1] (by decide) (wc := [(t, .inr (3, [.ref va, .ref re, .ref su, .int (iI tb), .int (iI ts)])), (re, .inl (g_I (x_G X), 2524, .inl (aI fr)))]) rfl [.int (iI cn)] rfl (Nat.le_of_ble_eq_true rfl) ⟨Nat.le_of_ble_eq_true rfl, Nat.le_of_ble_eq_true rfl⟩ dX3_countAt_13 (fun _ => [(t, .inr (3, [.ref va, .ref re, .ref su, .int (iI tb), .int (iI ts)])), (re, .inl (g_I (x_G X), 2524, .inl (aI fr)))]) (Or.inl (fun _ => ⟨rfl, rfl⟩)) (fun u13 => [.int (iI u13), .int (iI cn)]) (fun _ => rfl) 0 0 ⟨rfl, rfl⟩ (fun u13 hu13 => ?_)
        refine k_iadd C dX3_countAt_16 ?_
        refine k_nmI (fun v16 e16 => ?_)
        refine k_istore_n C (lo' := [(2, .int (iI v16)), (3, .int (iI i)), (0, .ref t), (1, .int (iI p))]) dX3_countAt_17 rfl (by decide) rfl ?_
        obtain ⟨v18, e18⟩ : ∃ y : Int, y = i + 1 := ⟨_, rfl⟩
        refine k_iinc C (lo' := [(3, .int (iI v18)), (2, .int (iI v16)), (0, .ref t), (1, .int (iI p))]) 1 rfl dX3_countAt_18 (by decide) v18 e18 rfl ?_
        refine k_goto C 4 dX3_countAt_21 (by decide) ?_
        exact ih4 v16 v18 (by rcases hI4 with ⟨a, b⟩ | ⟨a, b⟩ | ⟨a, b⟩ | ⟨a, b⟩ | ⟨a, b⟩ <;> subst a <;> omega) (by omega)
  exact L4 _ 0 0 (by omega) (Nat.lt_succ_self _)
theorem in_X3_placeOf_X3 : ∀ w ∈ wsX30, w ∈ wsX3_placeOf := by decide +kernel
set_option maxHeartbeats 4000000 in
set_option maxRecDepth 100000 in
theorem c_X3_placeOf (l : Launch) (G : KG) (t va re su : Nat) (tb ts : Int) (n : Nat) (v : Int) (hv : -2147483648 ≤ v ∧ v < 2147483648) (hn : 1 ≤ n ∧ n ≤ 99999) (htb : tb = (n : Int)) (hts : ts = (SZ n : Int)) : Ct l G yX3_placeOf wsX3_placeOf (rmD 0 0 0) [.ref t, .int (iI v)] [(t, .inr (3, [.ref va, .ref re, .ref su, .int (iI tb), .int (iI ts)]))] (fun u : Int => u = pI n v) (fun u : Int => some (.int (iI u))) (fun u : Int => [(t, .inr (3, [.ref va, .ref re, .ref su, .int (iI tb), .int (iI ts)]))]) := by
  refine Ct.of (cc := cX3_placeOf) (maxL := 3) (ret := (some .int)) (by decide +kernel) rfl (Nat.le_of_ble_eq_true rfl) ?_
  intro X C hG hL hnm hR
  subst hG
  subst hL
  have C : Cx X cX3_placeOf RX3 wsX3_placeOf (some .int) 3 (rmD 0 0 0) := C
  have hz := SZ_631 hn.2
  have hdl := Int.ediv_le_self (a := tb) v (by omega)
  show K_ X 0 0 [(t, .inr (3, [.ref va, .ref re, .ref su, .int (iI tb), .int (iI ts)]))] 0 [(0, .ref t), (1, .int (iI v))] []
  refine k_iload_n C 1 rfl dX3_placeOf_0 rfl ?_
  refine k_iconst C dX3_placeOf_1 ?_
  refine k_icmp_lt C 13 (⟨by omega, by omega⟩) (⟨by omega, by omega⟩) dX3_placeOf_2 (by decide) (fun c2 => ?_) (fun c2 => ?_)
  · skip
    refine k_iconst C dX3_placeOf_13 ?_
    exact k_iret C hR (u := (-1)) rfl (by first | (rw [pI_lo (by omega)]) | (rw [pI_hi (by omega)])) rfl (Nat.le_of_ble_eq_true rfl) (Nat.le_of_ble_eq_true rfl) dX3_placeOf_14
  · skip
    refine k_iload_n C 1 rfl dX3_placeOf_5 rfl ?_
    refine k_aload_n C 0 rfl dX3_placeOf_6 rfl ?_
    refine k_get C (Cn := RX3) (T := TX3) (N := 5) (ci := 3) (ref := "StruckCounts$Tally") in_X3_placeOf_X3 0 rfl rfl 3 (by decide) 1 rfl rfl (v := .int (iI tb)) rfl dX3_placeOf_7 ?_
    refine k_icmp_le C 15 (⟨by omega, by omega⟩) (⟨by omega, by omega⟩) dX3_placeOf_10 (by decide) (fun c10 => ?_) (fun c10 => ?_)
    · skip
      refine k_aload_n C 0 rfl dX3_placeOf_15 rfl ?_
      refine k_get C (Cn := RX3) (T := TX3) (N := 5) (ci := 3) (ref := "StruckCounts$Tally") in_X3_placeOf_X3 0 rfl rfl 3 (by decide) 1 rfl rfl (v := .int (iI tb)) rfl dX3_placeOf_16 ?_
      refine k_iload_n C 1 rfl dX3_placeOf_19 rfl ?_
      refine k_idiv C ⟨by omega, by omega⟩ ⟨by omega, by omega⟩ dX3_placeOf_20 ?_
      refine k_nmI (fun v20 e20 => ?_)
      have hd0 := Int.ediv_nonneg (a := tb) (b := v) (by omega) (by omega)
      refine k_istore_n C (lo' := [(2, .int (iI v20)), (0, .ref t), (1, .int (iI v))]) dX3_placeOf_21 rfl (by decide) rfl ?_
      refine k_iload_n C 0 rfl dX3_placeOf_22 rfl ?_
      refine k_iconst C dX3_placeOf_23 ?_
      refine k_icmp_lt C 37 (⟨by omega, by omega⟩) (⟨by omega, by omega⟩) dX3_placeOf_24 (by decide) (fun c24 => ?_) (fun c24 => ?_)
      · skip
        refine k_iconst C dX3_placeOf_37 ?_
        exact k_iret C hR (u := (-1)) rfl (by rw [htb] at *; rw [pI_bad (d := v20) (by omega) e20 (by omega)]) rfl (Nat.le_of_ble_eq_true rfl) (Nat.le_of_ble_eq_true rfl) dX3_placeOf_38
      · skip
        refine k_aload_n C 1 rfl dX3_placeOf_27 rfl ?_
        refine k_get C (Cn := RX3) (T := TX3) (N := 5) (ci := 3) (ref := "StruckCounts$Tally") in_X3_placeOf_X3 0 rfl rfl 3 (by decide) 1 rfl rfl (v := .int (iI tb)) rfl dX3_placeOf_28 ?_
        refine k_iload_n C 0 rfl dX3_placeOf_31 rfl ?_
        refine k_idiv C ⟨by omega, by omega⟩ ⟨by omega, by omega⟩ dX3_placeOf_32 ?_
        refine k_nmI (fun v32 e32 => ?_)
        have hd1 := Int.ediv_nonneg (a := tb) (b := v20) (by omega) (by omega)
        have hd2 := Int.ediv_le_self (a := tb) v20 (by omega)
        refine k_iload_n C 2 rfl dX3_placeOf_33 rfl ?_
        refine k_icmp_eq C 39 (⟨by omega, by omega⟩) (⟨by omega, by omega⟩) dX3_placeOf_34 (by decide) (fun c34 => ?_) (fun c34 => ?_)
        · skip
          refine k_iload_n C 2 rfl dX3_placeOf_39 rfl ?_
          refine k_iload_n C 0 rfl dX3_placeOf_40 rfl ?_
          refine k_icmp_gt C 53 (⟨by omega, by omega⟩) (⟨by omega, by omega⟩) dX3_placeOf_41 (by decide) (fun c41 => ?_) (fun c41 => ?_)
          · skip
            refine k_iload_n C 0 rfl dX3_placeOf_53 rfl ?_
            refine k_iconst C dX3_placeOf_54 ?_
            refine k_isub C dX3_placeOf_55 ?_
            refine k_nmI (fun v55 e55 => ?_)
            exact k_iret C hR (u := v55) rfl (by rw [htb] at *; rw [pI_ok (d := v20) (by omega) (by omega) e20 (by omega), if_neg (by omega)]; omega) rfl (Nat.le_of_ble_eq_true rfl) (Nat.le_of_ble_eq_true rfl) dX3_placeOf_56
          · skip
            refine k_aload_n C 1 rfl dX3_placeOf_44 rfl ?_
            refine k_get C (Cn := RX3) (T := TX3) (N := 5) (ci := 3) (ref := "StruckCounts$Tally") in_X3_placeOf_X3 0 rfl rfl 4 (by decide) 2 rfl rfl (v := .int (iI ts)) rfl dX3_placeOf_45 ?_
            refine k_iload_n C 2 rfl dX3_placeOf_48 rfl ?_
            refine k_isub C dX3_placeOf_49 ?_
            refine k_nmI (fun v49 e49 => ?_)
            refine k_goto C 56 dX3_placeOf_50 (by decide) ?_
            exact k_iret C hR (u := v49) rfl (by rw [htb] at *; rw [pI_ok (d := v20) (by omega) (by omega) e20 (by omega), if_pos (by omega)]; omega) rfl (Nat.le_of_ble_eq_true rfl) (Nat.le_of_ble_eq_true rfl) dX3_placeOf_56
        · skip
          refine k_iconst C dX3_placeOf_37 ?_
          exact k_iret C hR (u := (-1)) rfl (by rw [htb] at *; rw [pI_bad (d := v20) (by omega) e20 (by omega)]) rfl (Nat.le_of_ble_eq_true rfl) (Nat.le_of_ble_eq_true rfl) dX3_placeOf_38
    · skip
      refine k_iconst C dX3_placeOf_13 ?_
      exact k_iret C hR (u := (-1)) rfl (by first | (rw [pI_lo (by omega)]) | (rw [pI_hi (by omega)])) rfl (Nat.le_of_ble_eq_true rfl) (Nat.le_of_ble_eq_true rfl) dX3_placeOf_14
end
section
theorem in_X3_fill_X3 : ∀ w ∈ wsX30, w ∈ wsX3_fill := by decide +kernel
set_option maxHeartbeats 4000000 in
set_option maxRecDepth 100000 in
theorem c_X3_fill (l : Launch) (G : KG) (t va re su : Nat) (tb ts : Int) (p v : Int) (P m : Nat) (fv fr fs : Nat → Int) (hP : p = (P : Int)) (hv : 0 ≤ v ∧ v ≤ 99999) (hts : 0 ≤ ts ∧ ts ≤ 631) (hp : p < ts) : Ct l G yX3_fill wsX3_fill (rmD 1 0 0) [.ref t, .int (iI p), .int (iI v)] [(t, .inr (3, [.ref va, .ref re, .ref su, .int (iI tb), .int (iI ts)])), (va, .inl (g_I G, 631, .inl (aI fv))), (re, .inl (g_I G, 2524, .inl (aI fr))), (su, .inl (g_J G, 631, .inr (.inl (aL fs))))] (fun u : (Nat → Int) × (Nat → Int) × (Nat → Int) => (∀ k, u.1 k = if k = P then v else fv k) ∧ (∀ k j, j < 4 → u.2.1 (4 * k + j) = if k = P then (cR m 0 j v.toNat : Int) else fr (4 * k + j)) ∧ (∀ k, u.2.2 k = if k = P then (sR m 0 v.toNat : Int) else fs k)) (fun u : (Nat → Int) × (Nat → Int) × (Nat → Int) => none) (fun u : (Nat → Int) × (Nat → Int) × (Nat → Int) => [(t, .inr (3, [.ref va, .ref re, .ref su, .int (iI tb), .int (iI ts)])), (va, .inl (g_I G, 631, .inl (aI u.1))), (re, .inl (g_I G, 2524, .inl (aI u.2.1))), (su, .inl (g_J G, 631, .inr (.inl (aL u.2.2))))]) := by
  refine Ct.of (cc := cX3_fill) (maxL := 4) (ret := none) (by decide +kernel) rfl (Nat.le_of_ble_eq_true rfl) ?_
  intro X C hG hL hnm hR
  subst hG
  subst hL
  have C : Cx X cX3_fill RX3 wsX3_fill none 4 (rmD 1 0 0) := C
  show K_ X 0 0 [(t, .inr (3, [.ref va, .ref re, .ref su, .int (iI tb), .int (iI ts)])), (va, .inl (g_I (x_G X), 631, .inl (aI fv))), (re, .inl (g_I (x_G X), 2524, .inl (aI fr))), (su, .inl (g_J (x_G X), 631, .inr (.inl (aL fs))))] 0 [(0, .ref t), (1, .int (iI p)), (2, .int (iI v))] []
  refine k_aload_n C 0 rfl dX3_fill_0 rfl ?_
  refine k_iload_n C 1 rfl dX3_fill_1 rfl ?_
  refine k_callV C (y := yX3_has) [.int (iI p)] 1 rfl (c_X3_has (x_l X) (x_G X) t va re su tb ts p (by first | assumption | omega) (by first | assumption | omega)) gX3_fill_X3_has rfl ⟨rfl, by decide +kernel, by decide +kernel, by decide +kernel⟩ ⟨by decide, by decide⟩ 0 (fs := [.ref va, .ref re, .ref su, .int (iI tb), .int (iI ts)]) rfl rfl rfl [0] (by decide) (wc := [(t, .inr (3, [.ref va, .ref re, .ref su, .int (iI tb), .int (iI ts)]))]) rfl [] rfl (Nat.le_of_ble_eq_true rfl) ⟨Nat.le_of_ble_eq_true rfl, Nat.le_of_ble_eq_true rfl⟩ dX3_fill_2 (fun _ => [(t, .inr (3, [.ref va, .ref re, .ref su, .int (iI tb), .int (iI ts)])), (va, .inl (g_I (x_G X), 631, .inl (aI fv))), (re, .inl (g_I (x_G X), 2524, .inl (aI fr))), (su, .inl (g_J (x_G X), 631, .inr (.inl (aL fs))))]) (Or.inl (fun _ => ⟨rfl, rfl⟩)) (fun u2 => [.int (iI u2)]) (fun _ => rfl) 0 0 ⟨rfl, rfl⟩ (fun u2 hu2 => ?_)
  refine k_if_ne C 9 (⟨by omega, by omega⟩) dX3_fill_5 (by decide) (fun c5 => ?_) (fun c5 => ?_)
  · skip
    have hu2 := bo_t hu2 c5
    refine k_aload_n C 0 rfl dX3_fill_9 rfl ?_
    refine k_get C (Cn := RX3) (T := TX3) (N := 5) (ci := 3) (ref := "StruckCounts$Tally") in_X3_fill_X3 0 rfl rfl 0 (by decide) 1 rfl rfl (v := .ref va) rfl dX3_fill_10 ?_
    refine k_iload_n C 1 rfl dX3_fill_13 rfl ?_
    refine k_iload_n C 2 rfl dX3_fill_14 rfl ?_
    refine k_iast C (f := fv) 1 rfl (⟨by omega, by omega⟩) (by decide) (fun gg => [(t, .inr (3, [.ref va, .ref re, .ref su, .int (iI tb), .int (iI ts)])), (va, .inl (g_I (x_G X), 631, .inl (aI gg))), (re, .inl (g_I (x_G X), 2524, .inl (aI fr))), (su, .inl (g_J (x_G X), 631, .inr (.inl (aL fs))))]) (fun _ => rfl) dX3_fill_15 (fun g15 e15 => ?_)
    have P1 : p.toNat = P := by omega
    refine k_aload_n C 0 rfl dX3_fill_16 rfl ?_
    refine k_get C (Cn := RX3) (T := TX3) (N := 5) (ci := 3) (ref := "StruckCounts$Tally") in_X3_fill_X3 0 rfl rfl 2 (by decide) 2 rfl rfl (v := .ref su) rfl dX3_fill_17 ?_
    refine k_iload_n C 1 rfl dX3_fill_20 rfl ?_
    refine k_iload_n C 2 rfl dX3_fill_21 rfl ?_
    refine k_i2l C (⟨by omega, by omega⟩) dX3_fill_22 ?_
    refine k_iload_n C 2 rfl dX3_fill_23 rfl ?_
    refine k_i2l C (⟨by omega, by omega⟩) dX3_fill_24 ?_
    refine k_lconst C dX3_fill_25 1 (by decide) ?_
    refine k_ladd C dX3_fill_26 ?_
    refine k_nmL (fun v26 e26 => ?_)
    refine k_lmul C dX3_fill_27 ?_
    refine k_nmL (fun v27 e27 => ?_)
    have hm := mul_rng (a := v) (b := v26) (A := 99999) (B := 100000) (by omega) (by omega) (by omega) (by omega)
    refine k_ldc2 C 2 3 rfl (by decide) dX3_fill_28 ?_
    refine k_ldiv C ⟨by omega, by omega⟩ ⟨by omega, by omega⟩ dX3_fill_31 ?_
    refine k_nmL (fun v31 e31 => ?_)
    refine k_last C (f := fs) 3 rfl (⟨by omega, by omega⟩) (by decide) (fun gg => [(t, .inr (3, [.ref va, .ref re, .ref su, .int (iI tb), .int (iI ts)])), (va, .inl (g_I (x_G X), 631, .inl (aI g15))), (re, .inl (g_I (x_G X), 2524, .inl (aI fr))), (su, .inl (g_J (x_G X), 631, .inr (.inl (aL gg))))]) (fun _ => rfl) dX3_fill_32 (fun g32 e32 => ?_)
    refine k_aload_n C 0 rfl dX3_fill_33 rfl ?_
    refine k_get C (Cn := RX3) (T := TX3) (N := 5) (ci := 3) (ref := "StruckCounts$Tally") in_X3_fill_X3 0 rfl rfl 1 (by decide) 4 rfl rfl (v := .ref re) rfl dX3_fill_34 ?_
    refine k_iconst C dX3_fill_37 ?_
    refine k_iload_n C 1 rfl dX3_fill_38 rfl ?_
    refine k_imul C dX3_fill_39 ?_
    refine k_nmI (fun v39 e39 => ?_)
    refine k_iload_n C 2 rfl dX3_fill_40 rfl ?_
    refine k_iconst C dX3_fill_41 ?_
    refine k_idiv C ⟨by omega, by omega⟩ ⟨by omega, by omega⟩ dX3_fill_42 ?_
    refine k_nmI (fun v42 e42 => ?_)
    refine k_iast C (f := fr) 2 rfl (⟨by omega, by omega⟩) (by decide) (fun gg => [(t, .inr (3, [.ref va, .ref re, .ref su, .int (iI tb), .int (iI ts)])), (va, .inl (g_I (x_G X), 631, .inl (aI g15))), (re, .inl (g_I (x_G X), 2524, .inl (aI gg))), (su, .inl (g_J (x_G X), 631, .inr (.inl (aL g32))))]) (fun _ => rfl) dX3_fill_43 (fun g43 e43 => ?_)
    refine k_iconst C dX3_fill_44 ?_
    refine k_istore_n C (lo' := [(3, .int (iI 1)), (0, .ref t), (1, .int (iI p)), (2, .int (iI v))]) dX3_fill_45 rfl (by decide) rfl ?_
    have L46 : ∀ (nf : Nat) (i : Int) (fx : Nat → Int), (1 ≤ i ∧ i ≤ 4 ∧ ∀ k j, j < 4 → fx (4 * k + j) = if k = P ∧ (j : Int) < i then (cR m 0 j v.toNat : Int) else fr (4 * k + j)) → (4 - i).toNat < nf → K_ X 0 0 [(t, .inr (3, [.ref va, .ref re, .ref su, .int (iI tb), .int (iI ts)])), (va, .inl (g_I (x_G X), 631, .inl (aI g15))), (re, .inl (g_I (x_G X), 2524, .inl (aI fx))), (su, .inl (g_J (x_G X), 631, .inr (.inl (aL g32))))] 46 [(3, .int (iI i)), (0, .ref t), (1, .int (iI p)), (2, .int (iI v))] [] := by
      intro nf
      induction nf with
      | zero => intro i fx hI hm; exact absurd hm (Nat.not_lt_zero _)
      | succ nf ih46 =>
        intro i fx hI46 hm46
        obtain ⟨i1, i2, i3⟩ := hI46
        refine k_iload_n C 0 rfl dX3_fill_46 rfl ?_
        refine k_iconst C dX3_fill_47 ?_
        refine k_icmp_ge C 74 (⟨by omega, by omega⟩) (⟨by omega, by omega⟩) dX3_fill_48 (by decide) (fun c48 => ?_) (fun c48 => ?_)
        · skip
          exact k_vret C hR (u := (g15, fx, g32)) rfl (by (try dsimp only) <;> exact (⟨fun k => by rw [e15, P1]; rfl, fun k j hj => by rw [i3 k j hj]; by_cases e : k = P; (rw [if_pos e, if_pos ⟨e, by omega⟩]); (rw [if_neg e, if_neg (fun z => e z.1)]), fun k => by rw [e32, P1]; unfold upI; rw [sR_0i m hv.1 (by rw [e27, e26]) e31]⟩)) rfl (Nat.le_of_ble_eq_true rfl) (Nat.le_of_ble_eq_true rfl) dX3_fill_74
        · skip
          refine k_aload_n C 1 rfl dX3_fill_51 rfl ?_
          refine k_get C (Cn := RX3) (T := TX3) (N := 5) (ci := 3) (ref := "StruckCounts$Tally") in_X3_fill_X3 0 rfl rfl 1 (by decide) 4 rfl rfl (v := .ref re) rfl dX3_fill_52 ?_
          refine k_iconst C dX3_fill_55 ?_
          refine k_iload_n C 2 rfl dX3_fill_56 rfl ?_
          refine k_imul C dX3_fill_57 ?_
          refine k_nmI (fun v57 e57 => ?_)
          refine k_iload_n C 0 rfl dX3_fill_58 rfl ?_
          refine k_iadd C dX3_fill_59 ?_
          refine k_nmI (fun v59 e59 => ?_)
          refine k_iload_n C 3 rfl dX3_fill_60 rfl ?_
          refine k_iconst C dX3_fill_61 ?_
          refine k_iadd C dX3_fill_62 ?_
          refine k_nmI (fun v62 e62 => ?_)
          refine k_iload_n C 0 rfl dX3_fill_63 rfl ?_
          refine k_isub C dX3_fill_64 ?_
          refine k_nmI (fun v64 e64 => ?_)
          refine k_iconst C dX3_fill_65 ?_
          refine k_idiv C ⟨by omega, by omega⟩ ⟨by omega, by omega⟩ dX3_fill_66 ?_
          refine k_nmI (fun v66 e66 => ?_)
          refine k_iast C (f := fx) 2 rfl (⟨by omega, by omega⟩) (by decide) (fun gg => [(t, .inr (3, [.ref va, .ref re, .ref su, .int (iI tb), .int (iI ts)])), (va, .inl (g_I (x_G X), 631, .inl (aI g15))), (re, .inl (g_I (x_G X), 2524, .inl (aI gg))), (su, .inl (g_J (x_G X), 631, .inr (.inl (aL g32))))]) (fun _ => rfl) dX3_fill_67 (fun g67 e67 => ?_)
          obtain ⟨v68, e68⟩ : ∃ y : Int, y = i + 1 := ⟨_, rfl⟩
          refine k_iinc C (lo' := [(3, .int (iI v68)), (0, .ref t), (1, .int (iI p)), (2, .int (iI v))]) 0 rfl dX3_fill_68 (by decide) v68 e68 rfl ?_
          refine k_goto C 46 dX3_fill_71 (by decide) ?_
          exact ih46 v68 g67 (⟨by omega, by omega, by rw [e68]; exact fill_step hP hv.1 (i := i) (by omega) (y := v59) (x := v66) (by omega) (by rw [if_neg (by omega), e66, e64, e62]) i3 e67⟩) (by omega)
    exact L46 _ 1 g43 (⟨by omega, by omega, fill_step hP hv.1 (i := 0) (by omega) (y := v39) (x := v42) (by omega) (by rw [if_pos rfl]; exact e42) (fun k j hj => by rw [if_neg (by omega)]) e43 ⟩) (Nat.lt_succ_self _)
  · exfalso; omega
theorem in_X3_begin_X3 : ∀ w ∈ wsX30, w ∈ wsX3_begin := by decide +kernel
set_option maxHeartbeats 4000000 in
set_option maxRecDepth 100000 in
theorem c_X3_begin (l : Launch) (G : KG) (t va re su : Nat) (tb ts : Int) (x : Int) (n m : Nat) (fv fr fs : Nat → Int) (hx : x = (n : Int)) (hn : 1 ≤ n ∧ n ≤ 99999) : Ct l G yX3_begin wsX3_begin (rmD 2 0 0) [.ref t, .int (iI x)] [(t, .inr (3, [.ref va, .ref re, .ref su, .int (iI tb), .int (iI ts)])), (va, .inl (g_I G, 631, .inl (aI fv))), (re, .inl (g_I G, 2524, .inl (aI fr))), (su, .inl (g_J G, 631, .inr (.inl (aL fs))))] (fun u : Int × (Nat → Int) × (Nat → Int) × (Nat → Int) => TlOK n 0 m x u.1 u.2.1 u.2.2.1 u.2.2.2) (fun u : Int × (Nat → Int) × (Nat → Int) × (Nat → Int) => none) (fun u : Int × (Nat → Int) × (Nat → Int) × (Nat → Int) => [(t, .inr (3, [.ref va, .ref re, .ref su, .int (iI x), .int (iI u.1)])), (va, .inl (g_I G, 631, .inl (aI u.2.1))), (re, .inl (g_I G, 2524, .inl (aI u.2.2.1))), (su, .inl (g_J G, 631, .inr (.inl (aL u.2.2.2))))]) := by
  refine Ct.of (cc := cX3_begin) (maxL := 4) (ret := none) (by decide +kernel) rfl (Nat.le_of_ble_eq_true rfl) ?_
  intro X C hG hL hnm hR
  subst hG
  subst hL
  have C : Cx X cX3_begin RX3 wsX3_begin none 4 (rmD 2 0 0) := C
  have hz := SZ_631 hn.2
  show K_ X 0 0 [(t, .inr (3, [.ref va, .ref re, .ref su, .int (iI tb), .int (iI ts)])), (va, .inl (g_I (x_G X), 631, .inl (aI fv))), (re, .inl (g_I (x_G X), 2524, .inl (aI fr))), (su, .inl (g_J (x_G X), 631, .inr (.inl (aL fs))))] 0 [(0, .ref t), (1, .int (iI x))] []
  refine k_aload_n C 0 rfl dX3_begin_0 rfl ?_
  refine k_iload_n C 1 rfl dX3_begin_1 rfl ?_
  refine k_put C (Cn := RX3) (T := TX3) (N := 5) (ci := 3) (ref := "StruckCounts$Tally") in_X3_begin_X3 tyX3 tyX3_ok nmX3 0 rfl rfl 3 (by decide) 1 rfl rfl rfl (v := .int (iI x)) (rfl) (rfl) (Nat.le_of_ble_eq_true rfl) [(t, .inr (3, [.ref va, .ref re, .ref su, .int (iI x), .int (iI ts)])), (va, .inl (g_I (x_G X), 631, .inl (aI fv))), (re, .inl (g_I (x_G X), 2524, .inl (aI fr))), (su, .inl (g_J (x_G X), 631, .inr (.inl (aL fs))))] rfl dX3_begin_2 ?_
  refine k_aload_n C 0 rfl dX3_begin_5 rfl ?_
  refine k_iconst C dX3_begin_6 ?_
  refine k_put C (Cn := RX3) (T := TX3) (N := 5) (ci := 3) (ref := "StruckCounts$Tally") in_X3_begin_X3 tyX3 tyX3_ok nmX3 0 rfl rfl 4 (by decide) 2 rfl rfl rfl (v := .int (iI 0)) (rfl) (rfl) (Nat.le_of_ble_eq_true rfl) [(t, .inr (3, [.ref va, .ref re, .ref su, .int (iI x), .int (iI 0)])), (va, .inl (g_I (x_G X), 631, .inl (aI fv))), (re, .inl (g_I (x_G X), 2524, .inl (aI fr))), (su, .inl (g_J (x_G X), 631, .inr (.inl (aL fs))))] rfl dX3_begin_7 ?_
  refine k_iconst C dX3_begin_10 ?_
  refine k_istore_n C (lo' := [(2, .int (iI 1)), (0, .ref t), (1, .int (iI x))]) dX3_begin_11 rfl (by decide) rfl ?_
  have L12 : ∀ (nf : Nat) (q : Nat) (sz : Int) (d : Int) (f1 : Nat → Int) (f2 : Nat → Int) (f3 : Nat → Int), (sz = (q : Int) ∧ q ≤ SZ n ∧ d = (dvr n q : Int) ∧ TlP n q m f1 f2 f3) → SZ n - q < nf → K_ X 0 0 [(t, .inr (3, [.ref va, .ref re, .ref su, .int (iI x), .int (iI sz)])), (va, .inl (g_I (x_G X), 631, .inl (aI f1))), (re, .inl (g_I (x_G X), 2524, .inl (aI f2))), (su, .inl (g_J (x_G X), 631, .inr (.inl (aL f3))))] 12 [(2, .int (iI d)), (0, .ref t), (1, .int (iI x))] [] := by
    intro nf
    induction nf with
    | zero => intro q sz d f1 f2 f3 hI hm; exact absurd hm (Nat.not_lt_zero _)
    | succ nf ih12 =>
      intro q sz d f1 f2 f3 hI12 hm12
      obtain ⟨i1, i2, i3, i4⟩ := hI12
      have hd := dvr_pos n q
      have hdu := dvr_ub n q
      refine k_aload_n C 1 rfl dX3_begin_12 rfl ?_
      refine k_get C (Cn := RX3) (T := TX3) (N := 5) (ci := 3) (ref := "StruckCounts$Tally") in_X3_begin_X3 0 rfl rfl 4 (by decide) 2 rfl rfl (v := .int (iI sz)) rfl dX3_begin_13 ?_
      refine k_sipush C dX3_begin_16 (by decide) ?_
      refine k_icmp_ge C 70 (⟨by omega, by omega⟩) (⟨by omega, by omega⟩) dX3_begin_19 (by decide) (fun c19 => ?_) (fun c19 => ?_)
      · skip
        exact k_vret C hR (u := (sz, f1, f2, f3)) rfl (by (try dsimp only) <;> exact (by have e : q = SZ n := (by omega); subst e; exact TlP_ok hx i1 i4)) rfl (Nat.le_of_ble_eq_true rfl) (Nat.le_of_ble_eq_true rfl) dX3_begin_70
      · skip
        refine k_iload_n C 0 rfl dX3_begin_22 rfl ?_
        refine k_iconst C dX3_begin_23 ?_
        refine k_icmp_lt C 70 (⟨by omega, by omega⟩) (⟨by omega, by omega⟩) dX3_begin_24 (by decide) (fun c24 => ?_) (fun c24 => ?_)
        · skip
          exact k_vret C hR (u := (sz, f1, f2, f3)) rfl (by (try dsimp only) <;> exact (by exfalso; omega)) rfl (Nat.le_of_ble_eq_true rfl) (Nat.le_of_ble_eq_true rfl) dX3_begin_70
        · skip
          refine k_iload_n C 0 rfl dX3_begin_27 rfl ?_
          refine k_iload_n C 2 rfl dX3_begin_28 rfl ?_
          refine k_icmp_gt C 70 (⟨by omega, by omega⟩) (⟨by omega, by omega⟩) dX3_begin_29 (by decide) (fun c29 => ?_) (fun c29 => ?_)
          · skip
            exact k_vret C hR (u := (sz, f1, f2, f3)) rfl (by (try dsimp only) <;> exact (by have e : q = SZ n := (by rcases Nat.lt_or_ge q (SZ n) with z | z; exact absurd (dvr_le hn.1 z) (by omega); omega); subst e; exact TlP_ok hx i1 i4)) rfl (Nat.le_of_ble_eq_true rfl) (Nat.le_of_ble_eq_true rfl) dX3_begin_70
          · skip
            have hq : q < SZ n := by rcases Nat.lt_or_ge q (SZ n) with z | z; exact z; exfalso; have e : q = SZ n := (by omega); have := dvr_end hn.1; rw [← e] at this; omega
            have hqp := qv_pos hn.1 hq
            refine k_iload_n C 2 rfl dX3_begin_32 rfl ?_
            refine k_iload_n C 0 rfl dX3_begin_33 rfl ?_
            refine k_idiv C ⟨by omega, by omega⟩ ⟨by omega, by omega⟩ dX3_begin_34 ?_
            refine k_nmI (fun v34 e34 => ?_)
            have hv : v34 = (qv n q : Int) := by rw [e34, hx, i3, ← Int.natCast_ediv, dvr_v hn.1 hq]
            refine k_istore_n C (lo' := [(3, .int (iI v34)), (2, .int (iI d)), (0, .ref t), (1, .int (iI x))]) dX3_begin_35 rfl (by decide) rfl ?_
            refine k_aload_n C 2 rfl dX3_begin_36 rfl ?_
            refine k_dup C dX3_begin_37 rfl ?_
            refine k_get C (Cn := RX3) (T := TX3) (N := 5) (ci := 3) (ref := "StruckCounts$Tally") in_X3_begin_X3 0 rfl rfl 4 (by decide) 2 rfl rfl (v := .int (iI sz)) rfl dX3_begin_38 ?_
            refine k_iconst C dX3_begin_41 ?_
            refine k_iadd C dX3_begin_42 ?_
            refine k_nmI (fun v42 e42 => ?_)
            refine k_put C (Cn := RX3) (T := TX3) (N := 5) (ci := 3) (ref := "StruckCounts$Tally") in_X3_begin_X3 tyX3 tyX3_ok nmX3 0 rfl rfl 4 (by decide) 2 rfl rfl rfl (v := .int (iI v42)) (rfl) (rfl) (Nat.le_of_ble_eq_true rfl) [(t, .inr (3, [.ref va, .ref re, .ref su, .int (iI x), .int (iI v42)])), (va, .inl (g_I (x_G X), 631, .inl (aI f1))), (re, .inl (g_I (x_G X), 2524, .inl (aI f2))), (su, .inl (g_J (x_G X), 631, .inr (.inl (aL f3))))] rfl dX3_begin_43 ?_
            refine k_aload_n C 2 rfl dX3_begin_46 rfl ?_
            refine k_aload_n C 2 rfl dX3_begin_47 rfl ?_
            refine k_get C (Cn := RX3) (T := TX3) (N := 5) (ci := 3) (ref := "StruckCounts$Tally") in_X3_begin_X3 0 rfl rfl 4 (by decide) 2 rfl rfl (v := .int (iI v42)) rfl dX3_begin_48 ?_
            refine k_iconst C dX3_begin_51 ?_
            refine k_isub C dX3_begin_52 ?_
            refine k_nmI (fun v52 e52 => ?_)
            refine k_iload_n C 0 rfl dX3_begin_53 rfl ?_
            refine k_callV C (y := yX3_fill) [.int (iI v52), .int (iI v34)] 2 rfl (c_X3_fill (x_l X) (x_G X) t va re su x v42 v52 v34 q m f1 f2 f3 (by omega) (by omega) (by omega) (by omega)) gX3_begin_X3_fill rfl ⟨rfl, by decide +kernel, by decide +kernel, by decide +kernel⟩ ⟨by decide, by decide⟩ 0 (fs := [.ref va, .ref re, .ref su, .int (iI x), .int (iI v42)]) rfl rfl rfl [0, 1, 2, 3] (by decide) (wc := [(t, .inr (3, [.ref va, .ref re, .ref su, .int (iI x), .int (iI v42)])), (va, .inl (g_I (x_G X), 631, .inl (aI f1))), (re, .inl (g_I (x_G X), 2524, .inl (aI f2))), (su, .inl (g_J (x_G X), 631, .inr (.inl (aL f3))))]) rfl [] rfl (Nat.le_of_ble_eq_true rfl) ⟨Nat.le_of_ble_eq_true rfl, Nat.le_of_ble_eq_true rfl⟩ dX3_begin_54 (fun u54 => [(t, .inr (3, [.ref va, .ref re, .ref su, .int (iI x), .int (iI v42)])), (va, .inl (g_I (x_G X), 631, .inl (aI u54.1))), (re, .inl (g_I (x_G X), 2524, .inl (aI u54.2.1))), (su, .inl (g_J (x_G X), 631, .inr (.inl (aL u54.2.2))))]) (Or.inr ⟨[], [0, 1, 2, 3], [], rfl, by decide, by decide, by decide, fun _ => rfl⟩) (fun u54 => []) (fun _ => rfl) 0 0 ⟨rfl, rfl⟩ (fun u54 hu54 => ?_)
            refine k_iload_n C 3 rfl dX3_begin_57 rfl ?_
            refine k_iconst C dX3_begin_58 ?_
            refine k_iload_n C 0 rfl dX3_begin_59 rfl ?_
            refine k_max C 3 4 5 6 (⟨by omega, by omega⟩) (⟨by omega, by omega⟩) rfl rfl rfl rfl (by decide) (Nat.le_of_ble_eq_true rfl) ⟨by decide, by decide⟩ dX3_begin_60 (fun v60 e60 => ?_)
            have hvm : v60 = v34 := by omega
            refine k_idiv C ⟨by omega, by omega⟩ ⟨by omega, by omega⟩ dX3_begin_63 ?_
            refine k_nmI (fun v63 e63 => ?_)
            have h63 := Int.ediv_le_self (a := x) v60 (by omega)
            have h63b := Int.ediv_nonneg (a := x) (b := v60) (by omega) (by omega)
            refine k_iconst C dX3_begin_64 ?_
            refine k_iadd C dX3_begin_65 ?_
            refine k_nmI (fun v65 e65 => ?_)
            refine k_istore_n C (lo' := [(2, .int (iI v65)), (3, .int (iI v34)), (0, .ref t), (1, .int (iI x))]) dX3_begin_66 rfl (by decide) rfl ?_
            refine k_goto C 12 dX3_begin_67 (by decide) ?_
            refine k_lo (lo' := [(2, .int (iI v65)), (0, .ref t), (1, .int (iI x))]) [0, 2, 3] rfl ?_
            exact ih12 (q + 1) v42 v65 u54.1 u54.2.1 u54.2.2 (⟨by omega, by omega, by rw [e65, e63, hvm, hv, hx, ← Int.natCast_ediv]; have := dvr_s hn.1 hq; omega, TlP_step hv i4 hu54.1 hu54.2.1 hu54.2.2⟩) (by omega)
  exact L12 _ 0 0 1 fv fr fs (⟨rfl, Nat.zero_le _, by rw [dvr_0]; rfl, fun i hi => absurd hi (Nat.not_lt_zero _)⟩) (Nat.lt_succ_self _)
set_option maxHeartbeats 4000000 in
set_option maxRecDepth 100000 in
theorem c_X3_multiplesAt (l : Launch) (G : KG) (t va re su : Nat) (tb ts : Int) (p pr : Int) (n t1 m : Nat) (fv fr fs : Nat → Int) (hn : 1 ≤ n ∧ n ≤ 99999) (ht : t1 < 65) (hpr : pr = (sp t1 : Int)) (hT : TlOK n t1 m tb ts fv fr fs) (hp : 0 ≤ p ∧ p < ts) : Ct l G yX3_multiplesAt wsX3_multiplesAt (rmD 3 0 0) [.ref t, .int (iI p), .int (iI pr)] [(t, .inr (3, [.ref va, .ref re, .ref su, .int (iI tb), .int (iI ts)])), (va, .inl (g_I G, 631, .inl (aI fv))), (re, .inl (g_I G, 2524, .inl (aI fr))), (su, .inl (g_J G, 631, .inr (.inl (aL fs))))] (fun u : Int => u = (cA m t1 (qv n p.toNat / sp t1) : Int)) (fun u : Int => some (.int (iI u))) (fun u : Int => [(t, .inr (3, [.ref va, .ref re, .ref su, .int (iI tb), .int (iI ts)])), (va, .inl (g_I G, 631, .inl (aI fv))), (re, .inl (g_I G, 2524, .inl (aI fr))), (su, .inl (g_J G, 631, .inr (.inl (aL fs))))]) := by
  refine Ct.of (cc := cX3_multiplesAt) (maxL := 3) (ret := (some .int)) (by decide +kernel) rfl (Nat.le_of_ble_eq_true rfl) ?_
  intro X C hG hL hnm hR
  subst hG
  subst hL
  have C : Cx X cX3_multiplesAt RX3 wsX3_multiplesAt (some .int) 3 (rmD 3 0 0) := C
  have hz := SZ_631 hn.2
  have h2 := sp_ge2 ht
  have h3 := sp_le ht
  have htb := hT.1
  have hts := hT.2.1
  have hq : p.toNat < SZ n := by omega
  have hqp := qv_pos hn.1 hq
  have hvv := Tl_vA hT hp
  show K_ X 0 0 [(t, .inr (3, [.ref va, .ref re, .ref su, .int (iI tb), .int (iI ts)])), (va, .inl (g_I (x_G X), 631, .inl (aI fv))), (re, .inl (g_I (x_G X), 2524, .inl (aI fr))), (su, .inl (g_J (x_G X), 631, .inr (.inl (aL fs))))] 0 [(0, .ref t), (1, .int (iI p)), (2, .int (iI pr))] []
  refine k_iload_n C 2 rfl dX3_multiplesAt_0 rfl ?_
  refine k_iconst C dX3_multiplesAt_1 ?_
  refine k_icmp_ge C 9 (⟨by omega, by omega⟩) (⟨by omega, by omega⟩) dX3_multiplesAt_2 (by decide) (fun c2 => ?_) (fun c2 => ?_)
  · skip
    refine k_aload_n C 0 rfl dX3_multiplesAt_9 rfl ?_
    refine k_aload_n C 0 rfl dX3_multiplesAt_10 rfl ?_
    refine k_aload_n C 0 rfl dX3_multiplesAt_11 rfl ?_
    refine k_iload_n C 1 rfl dX3_multiplesAt_12 rfl ?_
    refine k_callV C (y := yX3_valueAt) [.int (iI p)] 1 rfl (c_X3_valueAt (x_l X) (x_G X) t va re su tb ts p fv (by first | assumption | omega) (by first | assumption | omega)) gX3_multiplesAt_X3_valueAt rfl ⟨rfl, by decide +kernel, by decide +kernel, by decide +kernel⟩ ⟨by decide, by decide⟩ 0 (fs := [.ref va, .ref re, .ref su, .int (iI tb), .int (iI ts)]) rfl rfl rfl [0, 1] (by decide) (wc := [(t, .inr (3, [.ref va, .ref re, .ref su, .int (iI tb), .int (iI ts)])), (va, .inl (g_I (x_G X), 631, .inl (aI fv)))]) rfl [.ref t, .ref t] rfl (Nat.le_of_ble_eq_true rfl) ⟨Nat.le_of_ble_eq_true rfl, Nat.le_of_ble_eq_true rfl⟩ dX3_multiplesAt_13 (fun _ => [(t, .inr (3, [.ref va, .ref re, .ref su, .int (iI tb), .int (iI ts)])), (va, .inl (g_I (x_G X), 631, .inl (aI fv))), (re, .inl (g_I (x_G X), 2524, .inl (aI fr))), (su, .inl (g_J (x_G X), 631, .inr (.inl (aL fs))))]) (Or.inl (fun _ => ⟨rfl, rfl⟩)) (fun u13 => [.int (iI u13), .ref t, .ref t]) (fun _ => rfl) 0 0 ⟨rfl, rfl⟩ (fun u13 hu13 => ?_)
    have hd1 := Int.ediv_nonneg (a := u13) (b := pr) (by omega) (by omega)
    have hd2 := Int.ediv_le_self (a := u13) pr (by omega)
    refine k_iload_n C 2 rfl dX3_multiplesAt_16 rfl ?_
    refine k_idiv C ⟨by omega, by omega⟩ ⟨by omega, by omega⟩ dX3_multiplesAt_17 ?_
    refine k_nmI (fun v17 e17 => ?_)
    refine k_callV C (y := yX3_placeOf) [.int (iI v17)] 1 rfl (c_X3_placeOf (x_l X) (x_G X) t va re su tb ts n v17 (by first | assumption | omega) (by first | assumption | omega) (by first | assumption | omega) (by first | assumption | omega)) gX3_multiplesAt_X3_placeOf rfl ⟨rfl, by decide +kernel, by decide +kernel, by decide +kernel⟩ ⟨by decide, by decide⟩ 0 (fs := [.ref va, .ref re, .ref su, .int (iI tb), .int (iI ts)]) rfl rfl rfl [0] (by decide) (wc := [(t, .inr (3, [.ref va, .ref re, .ref su, .int (iI tb), .int (iI ts)]))]) rfl [.ref t] rfl (Nat.le_of_ble_eq_true rfl) ⟨Nat.le_of_ble_eq_true rfl, Nat.le_of_ble_eq_true rfl⟩ dX3_multiplesAt_18 (fun _ => [(t, .inr (3, [.ref va, .ref re, .ref su, .int (iI tb), .int (iI ts)])), (va, .inl (g_I (x_G X), 631, .inl (aI fv))), (re, .inl (g_I (x_G X), 2524, .inl (aI fr))), (su, .inl (g_J (x_G X), 631, .inr (.inl (aL fs))))]) (Or.inl (fun _ => ⟨rfl, rfl⟩)) (fun u18 => [.int (iI u18), .ref t]) (fun _ => rfl) 0 0 ⟨rfl, rfl⟩ (fun u18 hu18 => ?_)
    have hpl := pI_rng n v17
    have hpl2 := pI_lt (v := v17) hn.1
    refine k_callV C (y := yX3_countAt) [.int (iI u18)] 1 rfl (c_X3_countAt (x_l X) (x_G X) t va re su tb ts u18 fr (by first | assumption | omega) (by first | assumption | omega)) gX3_multiplesAt_X3_countAt rfl ⟨rfl, by decide +kernel, by decide +kernel, by decide +kernel⟩ ⟨by decide, by decide⟩ 0 (fs := [.ref va, .ref re, .ref su, .int (iI tb), .int (iI ts)]) rfl rfl rfl [0, 2] (by decide) (wc := [(t, .inr (3, [.ref va, .ref re, .ref su, .int (iI tb), .int (iI ts)])), (re, .inl (g_I (x_G X), 2524, .inl (aI fr)))]) rfl [] rfl (Nat.le_of_ble_eq_true rfl) ⟨Nat.le_of_ble_eq_true rfl, Nat.le_of_ble_eq_true rfl⟩ dX3_multiplesAt_21 (fun _ => [(t, .inr (3, [.ref va, .ref re, .ref su, .int (iI tb), .int (iI ts)])), (va, .inl (g_I (x_G X), 631, .inl (aI fv))), (re, .inl (g_I (x_G X), 2524, .inl (aI fr))), (su, .inl (g_J (x_G X), 631, .inr (.inl (aL fs))))]) (Or.inl (fun _ => ⟨rfl, rfl⟩)) (fun u21 => [.int (iI u21)]) (fun _ => rfl) 0 0 ⟨rfl, rfl⟩ (fun u21 hu21 => ?_)
    exact k_iret C hR (u := u21) rfl (by
        rw [hu21, hu18]
        by_cases e : sp t1 ≤ qv n p.toNat
        · obtain ⟨s, a, b, c, d⟩ := src_of hn.1 hq ht e
          rw [e17, hu13, hvv, hpr, a, Tl_cnt hT b, d]
        · have z : qv n p.toNat / sp t1 = 0 := Nat.div_eq_of_lt (by omega)
          rw [e17, hu13, hvv, hpr, ← Int.natCast_ediv, z, pI_lo (by decide)]
          rw [rA_out (by omega), rA_out (by omega), rA_out (by omega), rA_out (by omega)]; rfl) rfl (Nat.le_of_ble_eq_true rfl) (Nat.le_of_ble_eq_true rfl) dX3_multiplesAt_24
  · exfalso; omega
theorem in_X3_remove_X3 : ∀ w ∈ wsX30, w ∈ wsX3_remove := by decide +kernel
set_option maxHeartbeats 4000000 in
set_option maxRecDepth 100000 in
theorem c_X3_remove (l : Launch) (G : KG) (t va re su : Nat) (tb ts : Int) (pr : Int) (n t1 m : Nat) (fv fr fs : Nat → Int) (hn : 1 ≤ n ∧ n ≤ 99999) (ht : t1 < 65) (hpr : pr = (sp t1 : Int)) (hb : m.testBit t1 = true) (hT : TlOK n t1 m tb ts fv fr fs) : Ct l G yX3_remove wsX3_remove (rmD 2 0 0) [.ref t, .int (iI pr)] [(t, .inr (3, [.ref va, .ref re, .ref su, .int (iI tb), .int (iI ts)])), (va, .inl (g_I G, 631, .inl (aI fv))), (re, .inl (g_I G, 2524, .inl (aI fr))), (su, .inl (g_J G, 631, .inr (.inl (aL fs))))] (fun u : (Nat → Int) × (Nat → Int) => TlOK n (t1 + 1) m tb ts fv u.1 u.2) (fun u : (Nat → Int) × (Nat → Int) => none) (fun u : (Nat → Int) × (Nat → Int) => [(t, .inr (3, [.ref va, .ref re, .ref su, .int (iI tb), .int (iI ts)])), (va, .inl (g_I G, 631, .inl (aI fv))), (re, .inl (g_I G, 2524, .inl (aI u.1))), (su, .inl (g_J G, 631, .inr (.inl (aL u.2))))]) := by
  refine Ct.of (cc := cX3_remove) (maxL := 5) (ret := none) (by decide +kernel) rfl (Nat.le_of_ble_eq_true rfl) ?_
  intro X C hG hL hnm hR
  subst hG
  subst hL
  have C : Cx X cX3_remove RX3 wsX3_remove none 5 (rmD 2 0 0) := C
  have hz := SZ_631 hn.2
  have h2 := sp_ge2 ht
  have h3 := sp_le ht
  have htb := hT.1
  have hts := hT.2.1
  show K_ X 0 0 [(t, .inr (3, [.ref va, .ref re, .ref su, .int (iI tb), .int (iI ts)])), (va, .inl (g_I (x_G X), 631, .inl (aI fv))), (re, .inl (g_I (x_G X), 2524, .inl (aI fr))), (su, .inl (g_J (x_G X), 631, .inr (.inl (aL fs))))] 0 [(0, .ref t), (1, .int (iI pr))] []
  refine k_iload_n C 1 rfl dX3_remove_0 rfl ?_
  refine k_iconst C dX3_remove_1 ?_
  refine k_icmp_ge C 6 (⟨by omega, by omega⟩) (⟨by omega, by omega⟩) dX3_remove_2 (by decide) (fun c2 => ?_) (fun c2 => ?_)
  · skip
    refine k_iconst C dX3_remove_6 ?_
    refine k_istore_n C (lo' := [(2, .int (iI 0)), (0, .ref t), (1, .int (iI pr))]) dX3_remove_7 rfl (by decide) rfl ?_
    have L8 : ∀ (nf : Nat) (i : Nat) (pl : Int) (fx : Nat → Int) (fy : Nat → Int), (pl = (i : Int) ∧ i ≤ SZ n ∧ TlR n t1 m i fx fy) → SZ n - i < nf → K_ X 0 0 [(t, .inr (3, [.ref va, .ref re, .ref su, .int (iI tb), .int (iI ts)])), (va, .inl (g_I (x_G X), 631, .inl (aI fv))), (re, .inl (g_I (x_G X), 2524, .inl (aI fx))), (su, .inl (g_J (x_G X), 631, .inr (.inl (aL fy))))] 8 [(2, .int (iI pl)), (0, .ref t), (1, .int (iI pr))] [] := by
      intro nf
      induction nf with
      | zero => intro i pl fx fy hI hm; exact absurd hm (Nat.not_lt_zero _)
      | succ nf ih8 =>
        intro i pl fx fy hI8 hm8
        obtain ⟨i1, i2, i3⟩ := hI8
        refine k_iload_n C 0 rfl dX3_remove_8 rfl ?_
        refine k_sipush C dX3_remove_9 (by decide) ?_
        refine k_icmp_ge C 114 (⟨by omega, by omega⟩) (⟨by omega, by omega⟩) dX3_remove_12 (by decide) (fun c12 => ?_) (fun c12 => ?_)
        · skip
          exact k_vret C hR (u := (fx, fy)) rfl (by (try dsimp only) <;> exact (TlR_end hn.1 ht hb hT i3 (fun z => by omega))) rfl (Nat.le_of_ble_eq_true rfl) (Nat.le_of_ble_eq_true rfl) dX3_remove_114
        · skip
          refine k_aload_n C 1 rfl dX3_remove_15 rfl ?_
          refine k_iload_n C 0 rfl dX3_remove_16 rfl ?_
          refine k_callV C (y := yX3_valueAt) [.int (iI pl)] 1 rfl (c_X3_valueAt (x_l X) (x_G X) t va re su tb ts pl fv (by first | assumption | omega) (by first | assumption | omega)) gX3_remove_X3_valueAt rfl ⟨rfl, by decide +kernel, by decide +kernel, by decide +kernel⟩ ⟨by decide, by decide⟩ 0 (fs := [.ref va, .ref re, .ref su, .int (iI tb), .int (iI ts)]) rfl rfl rfl [0, 1] (by decide) (wc := [(t, .inr (3, [.ref va, .ref re, .ref su, .int (iI tb), .int (iI ts)])), (va, .inl (g_I (x_G X), 631, .inl (aI fv)))]) rfl [] rfl (Nat.le_of_ble_eq_true rfl) ⟨Nat.le_of_ble_eq_true rfl, Nat.le_of_ble_eq_true rfl⟩ dX3_remove_17 (fun _ => [(t, .inr (3, [.ref va, .ref re, .ref su, .int (iI tb), .int (iI ts)])), (va, .inl (g_I (x_G X), 631, .inl (aI fv))), (re, .inl (g_I (x_G X), 2524, .inl (aI fx))), (su, .inl (g_J (x_G X), 631, .inr (.inl (aL fy))))]) (Or.inl (fun _ => ⟨rfl, rfl⟩)) (fun u17 => [.int (iI u17)]) (fun _ => rfl) 0 0 ⟨rfl, rfl⟩ (fun u17 hu17 => ?_)
          have hvr := Tl_vA_rng (q := pl) hn.1 hT
          refine k_iload_n C 2 rfl dX3_remove_20 rfl ?_
          refine k_icmp_lt C 114 (⟨by omega, by omega⟩) (⟨by omega, by omega⟩) dX3_remove_21 (by decide) (fun c21 => ?_) (fun c21 => ?_)
          · skip
            exact k_vret C hR (u := (fx, fy)) rfl (by (try dsimp only) <;> exact (TlR_end hn.1 ht hb hT i3 (fun z => by have hvv : u17 = (qv n i : Int) := (by rw [hu17, Tl_vA hT ⟨by omega, by omega⟩, i1, Int.toNat_natCast]); omega))) rfl (Nat.le_of_ble_eq_true rfl) (Nat.le_of_ble_eq_true rfl) dX3_remove_114
          · skip
            have hin : pl < ts := by rcases Int.lt_or_le pl ts with z | z; exact z; exfalso; rw [hu17] at c21; unfold vA at c21; rw [if_neg (by omega)] at c21; omega
            have hi : i < SZ n := by omega
            have hvv : u17 = (qv n i : Int) := by rw [hu17, Tl_vA hT ⟨by omega, hin⟩, i1, Int.toNat_natCast]
            have hqp := qv_pos hn.1 hi
            have hge : sp t1 ≤ qv n i := by omega
            obtain ⟨s, s0, s1, s2, s3⟩ := src_of hn.1 hi ht hge
            refine k_aload_n C 1 rfl dX3_remove_24 rfl ?_
            refine k_aload_n C 1 rfl dX3_remove_25 rfl ?_
            refine k_get C (Cn := RX3) (T := TX3) (N := 5) (ci := 3) (ref := "StruckCounts$Tally") in_X3_remove_X3 0 rfl rfl 0 (by decide) 1 rfl rfl (v := .ref va) rfl dX3_remove_26 ?_
            refine k_iload_n C 0 rfl dX3_remove_29 rfl ?_
            refine k_iald C (f := fv) 1 rfl (⟨by omega, by omega⟩) (by decide) dX3_remove_30 ?_
            refine k_nmI (fun v30 e30 => ?_)
            have hv30 : v30 = (qv n i : Int) := by rw [e30, i1, Int.toNat_natCast]; exact (hT.2.2 i hi).1
            refine k_iload_n C 2 rfl dX3_remove_31 rfl ?_
            refine k_idiv C ⟨by omega, by omega⟩ ⟨by omega, by omega⟩ dX3_remove_32 ?_
            refine k_nmI (fun v32 e32 => ?_)
            have hd1 := Int.ediv_nonneg (a := v30) (b := pr) (by omega) (by omega)
            have hd2 := Int.ediv_le_self (a := v30) pr (by omega)
            refine k_callV C (y := yX3_placeOf) [.int (iI v32)] 1 rfl (c_X3_placeOf (x_l X) (x_G X) t va re su tb ts n v32 (by first | assumption | omega) (by first | assumption | omega) (by first | assumption | omega) (by first | assumption | omega)) gX3_remove_X3_placeOf rfl ⟨rfl, by decide +kernel, by decide +kernel, by decide +kernel⟩ ⟨by decide, by decide⟩ 0 (fs := [.ref va, .ref re, .ref su, .int (iI tb), .int (iI ts)]) rfl rfl rfl [0] (by decide) (wc := [(t, .inr (3, [.ref va, .ref re, .ref su, .int (iI tb), .int (iI ts)]))]) rfl [] rfl (Nat.le_of_ble_eq_true rfl) ⟨Nat.le_of_ble_eq_true rfl, Nat.le_of_ble_eq_true rfl⟩ dX3_remove_33 (fun _ => [(t, .inr (3, [.ref va, .ref re, .ref su, .int (iI tb), .int (iI ts)])), (va, .inl (g_I (x_G X), 631, .inl (aI fv))), (re, .inl (g_I (x_G X), 2524, .inl (aI fx))), (su, .inl (g_J (x_G X), 631, .inr (.inl (aL fy))))]) (Or.inl (fun _ => ⟨rfl, rfl⟩)) (fun u33 => [.int (iI u33)]) (fun _ => rfl) 0 0 ⟨rfl, rfl⟩ (fun u33 hu33 => ?_)
            have hus : u33 = (s : Int) := by rw [hu33, e32, hv30, hpr, s0]
            refine k_istore_n C (lo' := [(3, .int (iI u33)), (2, .int (iI pl)), (0, .ref t), (1, .int (iI pr))]) dX3_remove_36 rfl (by decide) rfl ?_
            refine k_aload_n C 2 rfl dX3_remove_37 rfl ?_
            refine k_iload_n C 0 rfl dX3_remove_38 rfl ?_
            refine k_callV C (y := yX3_has) [.int (iI u33)] 1 rfl (c_X3_has (x_l X) (x_G X) t va re su tb ts u33 (by first | assumption | omega) (by first | assumption | omega)) gX3_remove_X3_has rfl ⟨rfl, by decide +kernel, by decide +kernel, by decide +kernel⟩ ⟨by decide, by decide⟩ 0 (fs := [.ref va, .ref re, .ref su, .int (iI tb), .int (iI ts)]) rfl rfl rfl [0] (by decide) (wc := [(t, .inr (3, [.ref va, .ref re, .ref su, .int (iI tb), .int (iI ts)]))]) rfl [] rfl (Nat.le_of_ble_eq_true rfl) ⟨Nat.le_of_ble_eq_true rfl, Nat.le_of_ble_eq_true rfl⟩ dX3_remove_39 (fun _ => [(t, .inr (3, [.ref va, .ref re, .ref su, .int (iI tb), .int (iI ts)])), (va, .inl (g_I (x_G X), 631, .inl (aI fv))), (re, .inl (g_I (x_G X), 2524, .inl (aI fx))), (su, .inl (g_J (x_G X), 631, .inr (.inl (aL fy))))]) (Or.inl (fun _ => ⟨rfl, rfl⟩)) (fun u39 => [.int (iI u39)]) (fun _ => rfl) 0 0 ⟨rfl, rfl⟩ (fun u39 hu39 => ?_)
            refine k_if_ne C 46 (⟨by omega, by omega⟩) dX3_remove_42 (by decide) (fun c42 => ?_) (fun c42 => ?_)
            · skip
              have hu39 := bo_t hu39 c42
              refine k_aload_n C 2 rfl dX3_remove_46 rfl ?_
              refine k_get C (Cn := RX3) (T := TX3) (N := 5) (ci := 3) (ref := "StruckCounts$Tally") in_X3_remove_X3 0 rfl rfl 2 (by decide) 2 rfl rfl (v := .ref su) rfl dX3_remove_47 ?_
              refine k_iload_n C 1 rfl dX3_remove_50 rfl ?_
              refine k_dup2 C dX3_remove_51 rfl rfl ?_
              refine k_lald C (f := fy) 3 rfl (⟨by omega, by omega⟩) (by decide) dX3_remove_52 ?_
              refine k_nmL (fun v52 e52 => ?_)
              refine k_iload_n C 3 rfl dX3_remove_53 rfl ?_
              refine k_i2l C (⟨by omega, by omega⟩) dX3_remove_54 ?_
              refine k_aload_n C 2 rfl dX3_remove_55 rfl ?_
              refine k_get C (Cn := RX3) (T := TX3) (N := 5) (ci := 3) (ref := "StruckCounts$Tally") in_X3_remove_X3 0 rfl rfl 2 (by decide) 2 rfl rfl (v := .ref su) rfl dX3_remove_56 ?_
              refine k_iload_n C 0 rfl dX3_remove_59 rfl ?_
              refine k_lald C (f := fy) 3 rfl (⟨by omega, by omega⟩) (by decide) dX3_remove_60 ?_
              refine k_nmL (fun v60 e60 => ?_)
              refine k_lmul C dX3_remove_61 ?_
              refine k_nmL (fun v61 e61 => ?_)
              refine k_lsub C dX3_remove_62 ?_
              refine k_nmL (fun v62 e62 => ?_)
              refine k_last C (f := fy) 3 rfl (⟨by omega, by omega⟩) (by decide) (fun gg => [(t, .inr (3, [.ref va, .ref re, .ref su, .int (iI tb), .int (iI ts)])), (va, .inl (g_I (x_G X), 631, .inl (aI fv))), (re, .inl (g_I (x_G X), 2524, .inl (aI fx))), (su, .inl (g_J (x_G X), 631, .inr (.inl (aL gg))))]) (fun _ => rfl) dX3_remove_63 (fun g63 e63 => ?_)
              refine k_iconst C dX3_remove_64 ?_
              refine k_istore C (lo' := [(4, .int (iI 0)), (3, .int (iI u33)), (2, .int (iI pl)), (0, .ref t), (1, .int (iI pr))]) dX3_remove_65 (by decide) rfl ?_
              have L67 : ∀ (nf : Nat) (r : Int) (fz : Nat → Int), (0 ≤ r ∧ r ≤ 4 ∧ ∀ k j, j < 4 → fz (4 * k + j) = fx (4 * k + j) - if k = i then tk fx (sp t1) s j r.toNat else 0) → (4 - r).toNat < nf → K_ X 0 0 [(t, .inr (3, [.ref va, .ref re, .ref su, .int (iI tb), .int (iI ts)])), (va, .inl (g_I (x_G X), 631, .inl (aI fv))), (re, .inl (g_I (x_G X), 2524, .inl (aI fz))), (su, .inl (g_J (x_G X), 631, .inr (.inl (aL g63))))] 67 [(4, .int (iI r)), (3, .int (iI u33)), (2, .int (iI pl)), (0, .ref t), (1, .int (iI pr))] [] := by
                intro nf
                induction nf with
                | zero => intro r fz hI hm; exact absurd hm (Nat.not_lt_zero _)
                | succ nf ih67 =>
                  intro r fz hI67 hm67
                  obtain ⟨j1, j2, j3⟩ := hI67
                  refine k_iload C 0 rfl dX3_remove_67 ?_
                  refine k_iconst C dX3_remove_69 ?_
                  refine k_icmp_ge C 108 (⟨by omega, by omega⟩) (⟨by omega, by omega⟩) dX3_remove_70 (by decide) (fun c70 => ?_) (fun c70 => ?_)
                  · skip
                    obtain ⟨v108, e108⟩ : ∃ y : Int, y = pl + 1 := ⟨_, rfl⟩
                    refine k_iinc C (lo' := [(2, .int (iI v108)), (4, .int (iI r)), (3, .int (iI u33)), (0, .ref t), (1, .int (iI pr))]) 2 rfl dX3_remove_108 (by decide) v108 e108 rfl ?_
                    refine k_goto C 8 dX3_remove_111 (by decide) ?_
                    refine k_lo (lo' := [(2, .int (iI v108)), (0, .ref t), (1, .int (iI pr))]) [0, 3, 4] rfl ?_
                    exact ih8 (i + 1) v108 fz g63 (⟨by omega, by omega, TlR_s ht hb i3 hi s1 (Nat.le_of_lt s2) s3 (fun k j hj => by rw [j3 k j hj, show r.toNat = 4 by omega]) (x := v62) (by rw [e62, e61, e52, e60, hus, hpr, i1, Int.toNat_natCast, Int.toNat_natCast]) (by rw [e63, i1, Int.toNat_natCast])⟩) (by omega)
                  · skip
                    refine k_aload_n C 3 rfl dX3_remove_73 rfl ?_
                    refine k_get C (Cn := RX3) (T := TX3) (N := 5) (ci := 3) (ref := "StruckCounts$Tally") in_X3_remove_X3 0 rfl rfl 1 (by decide) 3 rfl rfl (v := .ref re) rfl dX3_remove_74 ?_
                    refine k_iconst C dX3_remove_77 ?_
                    refine k_iload_n C 2 rfl dX3_remove_78 rfl ?_
                    refine k_imul C dX3_remove_79 ?_
                    refine k_nmI (fun v79 e79 => ?_)
                    refine k_iload_n C 4 rfl dX3_remove_80 rfl ?_
                    refine k_iload C 0 rfl dX3_remove_81 ?_
                    refine k_imul C dX3_remove_83 ?_
                    refine k_nmI (fun v83 e83 => ?_)
                    have hpr3 := mul_rng (a := pr) (b := r) (A := 313) (B := 3) (by omega) (by omega) (by omega) (by omega)
                    refine k_iconst C dX3_remove_84 ?_
                    refine k_iand C (v83 % 4) (iI_and3 v83) dX3_remove_85 ?_
                    refine k_nmI (fun v85 e85 => ?_)
                    have hw : v85.toNat = sp t1 * r.toNat % 4 := by obtain ⟨r1, hr1⟩ := Int.eq_ofNat_of_zero_le j1; rw [e85, e83, hpr, hr1, Int.toNat_natCast, ← Int.natCast_mul]; omega
                    refine k_iadd C dX3_remove_86 ?_
                    refine k_nmI (fun v86 e86 => ?_)
                    refine k_dup2 C dX3_remove_87 rfl rfl ?_
                    refine k_iald C (f := fz) 2 rfl (⟨by omega, by omega⟩) (by decide) dX3_remove_88 ?_
                    refine k_nmI (fun v88 e88 => ?_)
                    refine k_aload_n C 3 rfl dX3_remove_89 rfl ?_
                    refine k_get C (Cn := RX3) (T := TX3) (N := 5) (ci := 3) (ref := "StruckCounts$Tally") in_X3_remove_X3 0 rfl rfl 1 (by decide) 3 rfl rfl (v := .ref re) rfl dX3_remove_90 ?_
                    refine k_iconst C dX3_remove_93 ?_
                    refine k_iload_n C 1 rfl dX3_remove_94 rfl ?_
                    refine k_imul C dX3_remove_95 ?_
                    refine k_nmI (fun v95 e95 => ?_)
                    refine k_iload C 0 rfl dX3_remove_96 ?_
                    refine k_iadd C dX3_remove_98 ?_
                    refine k_nmI (fun v98 e98 => ?_)
                    refine k_iald C (f := fz) 2 rfl (⟨by omega, by omega⟩) (by decide) dX3_remove_99 ?_
                    refine k_nmI (fun v99 e99 => ?_)
                    refine k_isub C dX3_remove_100 ?_
                    refine k_nmI (fun v100 e100 => ?_)
                    refine k_iast C (f := fz) 2 rfl (⟨by omega, by omega⟩) (by decide) (fun gg => [(t, .inr (3, [.ref va, .ref re, .ref su, .int (iI tb), .int (iI ts)])), (va, .inl (g_I (x_G X), 631, .inl (aI fv))), (re, .inl (g_I (x_G X), 2524, .inl (aI gg))), (su, .inl (g_J (x_G X), 631, .inr (.inl (aL g63))))]) (fun _ => rfl) dX3_remove_101 (fun g101 e101 => ?_)
                    obtain ⟨v102, e102⟩ : ∃ y : Int, y = r + 1 := ⟨_, rfl⟩
                    refine k_iinc C (lo' := [(4, .int (iI v102)), (3, .int (iI u33)), (2, .int (iI pl)), (0, .ref t), (1, .int (iI pr))]) 0 rfl dX3_remove_102 (by decide) v102 e102 rfl ?_
                    refine k_goto C 67 dX3_remove_105 (by decide) ?_
                    exact ih67 v102 g101 (⟨by omega, by omega, by rw [e102, show (r + 1).toNat = r.toNat + 1 by omega]; exact tk_step (by omega) (by omega) j3 (w := v85.toNat) hw (y := v86) (by omega) (x := v100) (by rw [e100, e88, e99, show v86.toNat = 4 * i + v85.toNat by omega, show v98.toNat = 4 * s + r.toNat by omega]) e101⟩) (by omega)
              exact L67 _ 0 fx (⟨by omega, by omega, fun k j hj => by simp [tk]⟩) (Nat.lt_succ_self _)
            · exfalso; omega
    exact L8 _ 0 0 fr fs (⟨rfl, Nat.zero_le _, TlR_0 hT⟩) (Nat.lt_succ_self _)
  · exfalso; omega
end
section
set_option maxHeartbeats 4000000 in
set_option maxRecDepth 100000 in
theorem c_X0_primeAt (l : Launch) (G : KG) (b t : Nat) (tl bd cm sk k0 : Int) (hk0 : -2147483648 ≤ k0 ∧ k0 < 2147483648) : Ct l G yX0_primeAt wsX0_primeAt (rmD 0 0 0) [.ref b, .int (iI k0)] [(b, .inr (0, [.ref t, .int (iI tl), .int (iI bd), .int (iI cm), .long (jL sk)]))] (fun u : Int => u = pA k0) (fun u : Int => some (.int (iI u))) (fun u : Int => [(b, .inr (0, [.ref t, .int (iI tl), .int (iI bd), .int (iI cm), .long (jL sk)]))]) := by
  refine Ct.of (cc := cX0_primeAt) (maxL := 2) (ret := (some .int)) (by decide +kernel) rfl (Nat.le_of_ble_eq_true rfl) ?_
  intro X C hG hL hnm hR
  subst hG
  subst hL
  have C : Cx X cX0_primeAt RX0 wsX0_primeAt (some .int) 2 (rmD 0 0 0) := C
  show K_ X 0 0 [(b, .inr (0, [.ref t, .int (iI tl), .int (iI bd), .int (iI cm), .long (jL sk)]))] 0 [(0, .ref b), (1, .int (iI k0))] []
  refine k_iload_n C 1 rfl dX0_primeAt_0 rfl ?_
  refine k_if_lt C 10 (⟨by omega, by omega⟩) dX0_primeAt_1 (by decide) (fun c1 => ?_) (fun c1 => ?_)
  · skip
    refine k_iconst C dX0_primeAt_10 ?_
    refine k_goto C 19 dX0_primeAt_11 (by decide) ?_
    exact k_iret C hR (u := (-1)) rfl (by unfold pA; rw [if_neg (by omega)]) rfl (Nat.le_of_ble_eq_true rfl) (Nat.le_of_ble_eq_true rfl) dX0_primeAt_19
  · skip
    refine k_iload_n C 1 rfl dX0_primeAt_4 rfl ?_
    refine k_bipush C dX0_primeAt_5 (by decide) ?_
    refine k_icmp_lt C 14 (⟨by omega, by omega⟩) (⟨by omega, by omega⟩) dX0_primeAt_7 (by decide) (fun c7 => ?_) (fun c7 => ?_)
    · skip
      refine k_getsN C (ref := "StruckCounts") (nm := "SMALL_PRIMES") C.S.1.1 9 rfl rfl dX0_primeAt_14 ?_
      refine k_iload_n C 1 rfl dX0_primeAt_17 rfl ?_
      refine k_ti C C.S.1.2 (⟨by omega, by omega⟩) (by decide) dX0_primeAt_18 ?_
      refine k_nmI (fun v18 e18 => ?_)
      exact k_iret C hR (u := v18) rfl (by unfold pA; rw [if_pos (by omega)]; exact e18) rfl (Nat.le_of_ble_eq_true rfl) (Nat.le_of_ble_eq_true rfl) dX0_primeAt_19
    · skip
      refine k_iconst C dX0_primeAt_10 ?_
      refine k_goto C 19 dX0_primeAt_11 (by decide) ?_
      exact k_iret C hR (u := (-1)) rfl (by unfold pA; rw [if_neg (by omega)]) rfl (Nat.le_of_ble_eq_true rfl) (Nat.le_of_ble_eq_true rfl) dX0_primeAt_19
theorem in_X0_hasStruck_X0 : ∀ w ∈ wsX00, w ∈ wsX0_hasStruck := by decide +kernel
set_option maxHeartbeats 4000000 in
set_option maxRecDepth 100000 in
theorem c_X0_hasStruck (l : Launch) (G : KG) (b t : Nat) (tl bd cm sk k0 : Int) (m : Nat) (hk : 0 ≤ k0 ∧ k0 < 64) (hsk : sk = (m : Int)) (hm : m < 2 ^ 64) : Ct l G yX0_hasStruck wsX0_hasStruck (rmD 0 0 0) [.ref b, .int (iI k0)] [(b, .inr (0, [.ref t, .int (iI tl), .int (iI bd), .int (iI cm), .long (jL sk)]))] (fun u : Int => (u = 1 ∧ m.testBit k0.toNat = true) ∨ (u = 0 ∧ ¬ m.testBit k0.toNat = true)) (fun u : Int => some (.int (iI u))) (fun u : Int => [(b, .inr (0, [.ref t, .int (iI tl), .int (iI bd), .int (iI cm), .long (jL sk)]))]) := by
  refine Ct.of (cc := cX0_hasStruck) (maxL := 2) (ret := (some .boolean)) (by decide +kernel) rfl (Nat.le_of_ble_eq_true rfl) ?_
  intro X C hG hL hnm hR
  subst hG
  subst hL
  have C : Cx X cX0_hasStruck RX0 wsX0_hasStruck (some .boolean) 2 (rmD 0 0 0) := C
  have hq := Nat.div_le_self m (2 ^ k0.toNat)
  show K_ X 0 0 [(b, .inr (0, [.ref t, .int (iI tl), .int (iI bd), .int (iI cm), .long (jL sk)]))] 0 [(0, .ref b), (1, .int (iI k0))] []
  refine k_aload_n C 0 rfl dX0_hasStruck_0 rfl ?_
  refine k_get C (Cn := RX0) (T := TX0) (N := 5) (ci := 0) (ref := "StruckCounts$Board") in_X0_hasStruck_X0 0 rfl rfl 4 (by decide) 1 rfl rfl (v := .long (jL sk)) rfl dX0_hasStruck_1 ?_
  refine k_iload_n C 1 rfl dX0_hasStruck_4 rfl ?_
  refine k_lushr C ((m / 2 ^ k0.toNat : Nat) : Int) (by rw [hsk]; exact jl_shr hm hk.1 hk.2) dX0_hasStruck_5 ?_
  refine k_nmL (fun v5 e5 => ?_)
  refine k_lconst C dX0_hasStruck_6 1 (by decide) ?_
  refine k_land C ((m / 2 ^ k0.toNat % 2 : Nat) : Int) (by rw [e5]; exact jl_and1 _) dX0_hasStruck_7 ?_
  refine k_nmL (fun v7 e7 => ?_)
  refine k_lconst C dX0_hasStruck_8 0 (by decide) ?_
  refine k_lcmp C (⟨by omega, by omega⟩) (⟨by omega, by omega⟩) dX0_hasStruck_9 (fun v9 e9 b9 => ?_)
  clear e9
  refine k_if_eq C 17 (⟨by omega, by omega⟩) dX0_hasStruck_10 (by decide) (fun c10 => ?_) (fun c10 => ?_)
  · skip
    refine k_iconst C dX0_hasStruck_17 ?_
    exact k_zret C hR (by omega) (u := 0) rfl (by right; refine ⟨rfl, ?_⟩; rw [tb_mod]; intro z; have := of_decide_eq_true z; omega) rfl (Nat.le_of_ble_eq_true rfl) (Nat.le_of_ble_eq_true rfl) dX0_hasStruck_18
  · skip
    refine k_iconst C dX0_hasStruck_13 ?_
    refine k_goto C 18 dX0_hasStruck_14 (by decide) ?_
    exact k_zret C hR (by omega) (u := 1) rfl (by left; refine ⟨rfl, ?_⟩; rw [tb_mod]; exact decide_eq_true (by omega)) rfl (Nat.le_of_ble_eq_true rfl) (Nat.le_of_ble_eq_true rfl) dX0_hasStruck_18
theorem in_X0_nextPrime_X0 : ∀ w ∈ wsX00, w ∈ wsX0_nextPrime := by decide +kernel
set_option maxHeartbeats 4000000 in
set_option maxRecDepth 100000 in
theorem c_X0_nextPrime (l : Launch) (G : KG) (b t : Nat) (tl bd cm sk : Int) (n k m : Nat) (hS : BdS n k m bd cm sk) : Ct l G yX0_nextPrime wsX0_nextPrime (rmD 1 0 0) [.ref b] [(b, .inr (0, [.ref t, .int (iI tl), .int (iI bd), .int (iI cm), .long (jL sk)]))] (fun u : Int => u = nxI n k) (fun u : Int => some (.int (iI u))) (fun u : Int => [(b, .inr (0, [.ref t, .int (iI tl), .int (iI bd), .int (iI cm), .long (jL sk)]))]) := by
  refine Ct.of (cc := cX0_nextPrime) (maxL := 2) (ret := (some .int)) (by decide +kernel) rfl (Nat.le_of_ble_eq_true rfl) ?_
  intro X C hG hL hnm hR
  subst hG
  subst hL
  have C : Cx X cX0_nextPrime RX0 wsX0_nextPrime (some .int) 2 (rmD 1 0 0) := C
  obtain ⟨s1, s2, s3, s4, s5, s6, s7⟩ := id hS
  show K_ X 0 0 [(b, .inr (0, [.ref t, .int (iI tl), .int (iI bd), .int (iI cm), .long (jL sk)]))] 0 [(0, .ref b)] []
  refine k_aload_n C 0 rfl dX0_nextPrime_0 rfl ?_
  refine k_aload_n C 0 rfl dX0_nextPrime_1 rfl ?_
  refine k_get C (Cn := RX0) (T := TX0) (N := 5) (ci := 0) (ref := "StruckCounts$Board") in_X0_nextPrime_X0 0 rfl rfl 3 (by decide) 1 rfl rfl (v := .int (iI cm)) rfl dX0_nextPrime_2 ?_
  refine k_callV C (y := yX0_primeAt) [.int (iI cm)] 1 rfl (c_X0_primeAt (x_l X) (x_G X) b t tl bd cm sk cm (by first | assumption | omega)) gX0_nextPrime_X0_primeAt rfl ⟨rfl, by decide +kernel, by decide +kernel, by decide +kernel⟩ ⟨by decide, by decide⟩ 0 (fs := [.ref t, .int (iI tl), .int (iI bd), .int (iI cm), .long (jL sk)]) rfl rfl rfl [0] (by decide) (wc := [(b, .inr (0, [.ref t, .int (iI tl), .int (iI bd), .int (iI cm), .long (jL sk)]))]) rfl [] rfl (Nat.le_of_ble_eq_true rfl) ⟨Nat.le_of_ble_eq_true rfl, Nat.le_of_ble_eq_true rfl⟩ dX0_nextPrime_5 (fun _ => [(b, .inr (0, [.ref t, .int (iI tl), .int (iI bd), .int (iI cm), .long (jL sk)]))]) (Or.inl (fun _ => ⟨rfl, rfl⟩)) (fun u5 => [.int (iI u5)]) (fun _ => rfl) 0 0 ⟨rfl, rfl⟩ (fun u5 hu5 => ?_)
  have hr := pA_rng cm
  have hp : u5 = pA (k : Int) := by rw [hu5, s2]
  refine k_istore_n C (lo' := [(1, .int (iI u5)), (0, .ref b)]) dX0_nextPrime_8 rfl (by decide) rfl ?_
  refine k_iload_n C 0 rfl dX0_nextPrime_9 rfl ?_
  refine k_aload_n C 1 rfl dX0_nextPrime_10 rfl ?_
  refine k_get C (Cn := RX0) (T := TX0) (N := 5) (ci := 0) (ref := "StruckCounts$Board") in_X0_nextPrime_X0 0 rfl rfl 2 (by decide) 2 rfl rfl (v := .int (iI bd)) rfl dX0_nextPrime_11 ?_
  refine k_icmp_le C 21 (⟨by omega, by omega⟩) (⟨by omega, by omega⟩) dX0_nextPrime_14 (by decide) (fun c14 => ?_) (fun c14 => ?_)
  · skip
    refine k_iload_n C 0 rfl dX0_nextPrime_21 rfl ?_
    exact k_iret C hR (u := u5) rfl (by rw [nxI_pA s6, if_neg (by omega), hp]) rfl (Nat.le_of_ble_eq_true rfl) (Nat.le_of_ble_eq_true rfl) dX0_nextPrime_22
  · skip
    refine k_iconst C dX0_nextPrime_17 ?_
    refine k_goto C 22 dX0_nextPrime_18 (by decide) ?_
    exact k_iret C hR (u := (-1)) rfl (by rw [nxI_pA s6, if_pos (by omega)]) rfl (Nat.le_of_ble_eq_true rfl) (Nat.le_of_ble_eq_true rfl) dX0_nextPrime_22
theorem in_X0_show_X0 : ∀ w ∈ wsX00, w ∈ wsX0_show := by decide +kernel
set_option maxHeartbeats 4000000 in
set_option maxRecDepth 100000 in
theorem c_X0_show (l : Launch) (G : KG) (b t : Nat) (tl bd cm sk x y z : Int)  : Ct l G yX0_show wsX0_show (rmD 0 0 0) [.ref b, .int (iI x), .int (iI y), .long (jL z)] [(b, .inr (0, [.ref t, .int (iI tl), .int (iI bd), .int (iI cm), .long (jL sk)]))] (fun u : Unit => True) (fun u : Unit => none) (fun u : Unit => [(b, .inr (0, [.ref t, .int (iI (-1)), .int (iI x), .int (iI y), .long (jL z)]))]) := by
  refine Ct.of (cc := cX0_show) (maxL := 5) (ret := none) (by decide +kernel) rfl (Nat.le_of_ble_eq_true rfl) ?_
  intro X C hG hL hnm hR
  subst hG
  subst hL
  have C : Cx X cX0_show RX0 wsX0_show none 5 (rmD 0 0 0) := C
  show K_ X 0 0 [(b, .inr (0, [.ref t, .int (iI tl), .int (iI bd), .int (iI cm), .long (jL sk)]))] 0 [(0, .ref b), (1, .int (iI x)), (2, .int (iI y)), (3, .long (jL z))] []
  refine k_aload_n C 0 rfl dX0_show_0 rfl ?_
  refine k_iload_n C 1 rfl dX0_show_1 rfl ?_
  refine k_put C (Cn := RX0) (T := TX0) (N := 5) (ci := 0) (ref := "StruckCounts$Board") in_X0_show_X0 tyX0 tyX0_ok nmX0 0 rfl rfl 2 (by decide) 1 rfl rfl rfl (v := .int (iI x)) (rfl) (rfl) (Nat.le_of_ble_eq_true rfl) [(b, .inr (0, [.ref t, .int (iI tl), .int (iI x), .int (iI cm), .long (jL sk)]))] rfl dX0_show_2 ?_
  refine k_aload_n C 0 rfl dX0_show_5 rfl ?_
  refine k_iload_n C 2 rfl dX0_show_6 rfl ?_
  refine k_put C (Cn := RX0) (T := TX0) (N := 5) (ci := 0) (ref := "StruckCounts$Board") in_X0_show_X0 tyX0 tyX0_ok nmX0 0 rfl rfl 3 (by decide) 2 rfl rfl rfl (v := .int (iI y)) (rfl) (rfl) (Nat.le_of_ble_eq_true rfl) [(b, .inr (0, [.ref t, .int (iI tl), .int (iI x), .int (iI y), .long (jL sk)]))] rfl dX0_show_7 ?_
  refine k_aload_n C 0 rfl dX0_show_10 rfl ?_
  refine k_lload_n C 3 rfl dX0_show_11 rfl ?_
  refine k_put C (Cn := RX0) (T := TX0) (N := 5) (ci := 0) (ref := "StruckCounts$Board") in_X0_show_X0 tyX0 tyX0_ok nmX0 0 rfl rfl 4 (by decide) 3 rfl rfl rfl (v := .long (jL z)) (rfl) (rfl) (Nat.le_of_ble_eq_true rfl) [(b, .inr (0, [.ref t, .int (iI tl), .int (iI x), .int (iI y), .long (jL z)]))] rfl dX0_show_12 ?_
  refine k_aload_n C 0 rfl dX0_show_15 rfl ?_
  refine k_iconst C dX0_show_16 ?_
  refine k_put C (Cn := RX0) (T := TX0) (N := 5) (ci := 0) (ref := "StruckCounts$Board") in_X0_show_X0 tyX0 tyX0_ok nmX0 0 rfl rfl 1 (by decide) 4 rfl rfl rfl (v := .int (iI (-1))) (rfl) (rfl) (Nat.le_of_ble_eq_true rfl) [(b, .inr (0, [.ref t, .int (iI (-1)), .int (iI x), .int (iI y), .long (jL z)]))] rfl dX0_show_17 ?_
  exact k_vret C hR (u := ()) rfl (by first | trivial | omega) rfl (Nat.le_of_ble_eq_true rfl) (Nat.le_of_ble_eq_true rfl) dX0_show_20
set_option maxHeartbeats 4000000 in
set_option maxRecDepth 100000 in
theorem c_X0_begin (l : Launch) (G : KG) (b t : Nat) (tl bd cm sk x : Int)  : Ct l G yX0_begin wsX0_begin (rmD 1 0 0) [.ref b, .int (iI x)] [(b, .inr (0, [.ref t, .int (iI tl), .int (iI bd), .int (iI cm), .long (jL sk)]))] (fun u : Unit => True) (fun u : Unit => none) (fun u : Unit => [(b, .inr (0, [.ref t, .int (iI (-1)), .int (iI x), .int (iI 0), .long (jL 0)]))]) := by
  refine Ct.of (cc := cX0_begin) (maxL := 2) (ret := none) (by decide +kernel) rfl (Nat.le_of_ble_eq_true rfl) ?_
  intro X C hG hL hnm hR
  subst hG
  subst hL
  have C : Cx X cX0_begin RX0 wsX0_begin none 2 (rmD 1 0 0) := C
  show K_ X 0 0 [(b, .inr (0, [.ref t, .int (iI tl), .int (iI bd), .int (iI cm), .long (jL sk)]))] 0 [(0, .ref b), (1, .int (iI x))] []
  refine k_aload_n C 0 rfl dX0_begin_0 rfl ?_
  refine k_iload_n C 1 rfl dX0_begin_1 rfl ?_
  refine k_iconst C dX0_begin_2 ?_
  refine k_lconst C dX0_begin_3 0 (by decide) ?_
  refine k_callV C (y := yX0_show) [.int (iI x), .int (iI 0), .long (jL 0)] 3 rfl (c_X0_show (x_l X) (x_G X) b t tl bd cm sk x 0 0 ) gX0_begin_X0_show rfl ⟨rfl, by decide +kernel, by decide +kernel, by decide +kernel⟩ ⟨by decide, by decide⟩ 0 (fs := [.ref t, .int (iI tl), .int (iI bd), .int (iI cm), .long (jL sk)]) rfl rfl rfl [0] (by decide) (wc := [(b, .inr (0, [.ref t, .int (iI tl), .int (iI bd), .int (iI cm), .long (jL sk)]))]) rfl [] rfl (Nat.le_of_ble_eq_true rfl) ⟨Nat.le_of_ble_eq_true rfl, Nat.le_of_ble_eq_true rfl⟩ dX0_begin_4 (fun u4 => [(b, .inr (0, [.ref t, .int (iI (-1)), .int (iI x), .int (iI 0), .long (jL 0)]))]) (Or.inr ⟨[], [0], [], rfl, by decide, by decide, by decide, fun _ => rfl⟩) (fun u4 => []) (fun _ => rfl) 0 0 ⟨rfl, rfl⟩ (fun u4 hu4 => ?_)
  exact k_vret C hR (u := ()) rfl (by first | trivial | omega) rfl (Nat.le_of_ble_eq_true rfl) (Nat.le_of_ble_eq_true rfl) dX0_begin_7

theorem in_X0_letCome_X0 : ∀ w ∈ wsX00, w ∈ wsX0_letCome := by decide +kernel
set_option maxHeartbeats 4000000 in
set_option maxRecDepth 100000 in
theorem c_X0_letCome (l : Launch) (G : KG) (b t : Nat) (tl bd cm sk s : Int) (n k m : Nat) (hS : BdS n k m bd cm sk) (hs : s = 0 ∨ s = 1) : Ct l G yX0_letCome wsX0_letCome (rmD 2 0 0) [.ref b, .int (iI s)] [(b, .inr (0, [.ref t, .int (iI tl), .int (iI bd), .int (iI cm), .long (jL sk)]))] (fun u : Int × Int × Int => (nxI n k = -1 ∧ u.1 = 0 ∧ u.2.1 = cm ∧ u.2.2 = sk) ∨ (¬ nxI n k = -1 ∧ u.1 = 1 ∧ u.2.1 = cm + 1 ∧ u.2.2 = if s = 0 then (m : Int) else ((m ||| 2 ^ k : Nat) : Int))) (fun u : Int × Int × Int => some (.int (iI u.1))) (fun u : Int × Int × Int => [(b, .inr (0, [.ref t, .int (iI tl), .int (iI bd), .int (iI u.2.1), .long (jL u.2.2)]))]) := by
  refine Ct.of (cc := cX0_letCome) (maxL := 2) (ret := (some .boolean)) (by decide +kernel) rfl (Nat.le_of_ble_eq_true rfl) ?_
  intro X C hG hL hnm hR
  subst hG
  subst hL
  have C : Cx X cX0_letCome RX0 wsX0_letCome (some .boolean) 2 (rmD 2 0 0) := C
  obtain ⟨s1, s2, s3, s4, s5, s6, s7⟩ := id hS
  show K_ X 0 0 [(b, .inr (0, [.ref t, .int (iI tl), .int (iI bd), .int (iI cm), .long (jL sk)]))] 0 [(0, .ref b), (1, .int (iI s))] []
  refine k_aload_n C 0 rfl dX0_letCome_0 rfl ?_
  refine k_callV C (y := yX0_nextPrime) [] 0 rfl (c_X0_nextPrime (x_l X) (x_G X) b t tl bd cm sk n k m (by first | assumption | omega)) gX0_letCome_X0_nextPrime rfl ⟨rfl, by decide +kernel, by decide +kernel, by decide +kernel⟩ ⟨by decide, by decide⟩ 0 (fs := [.ref t, .int (iI tl), .int (iI bd), .int (iI cm), .long (jL sk)]) rfl rfl rfl [0] (by decide) (wc := [(b, .inr (0, [.ref t, .int (iI tl), .int (iI bd), .int (iI cm), .long (jL sk)]))]) rfl [] rfl (Nat.le_of_ble_eq_true rfl) ⟨Nat.le_of_ble_eq_true rfl, Nat.le_of_ble_eq_true rfl⟩ dX0_letCome_1 (fun _ => [(b, .inr (0, [.ref t, .int (iI tl), .int (iI bd), .int (iI cm), .long (jL sk)]))]) (Or.inl (fun _ => ⟨rfl, rfl⟩)) (fun u1 => [.int (iI u1)]) (fun _ => rfl) 0 0 ⟨rfl, rfl⟩ (fun u1 hu1 => ?_)
  have hr := nxI_rng n k
  refine k_iconst C dX0_letCome_4 ?_
  refine k_icmp_ne C 10 (⟨by omega, by omega⟩) (⟨by omega, by omega⟩) dX0_letCome_5 (by decide) (fun c5 => ?_) (fun c5 => ?_)
  · skip
    refine k_iload_n C 1 rfl dX0_letCome_10 rfl ?_
    refine k_if_eq C 29 (⟨by omega, by omega⟩) dX0_letCome_11 (by decide) (fun c11 => ?_) (fun c11 => ?_)
    · skip
      refine k_aload_n C 0 rfl dX0_letCome_29 rfl ?_
      refine k_dup C dX0_letCome_30 rfl ?_
      refine k_get C (Cn := RX0) (T := TX0) (N := 5) (ci := 0) (ref := "StruckCounts$Board") in_X0_letCome_X0 0 rfl rfl 3 (by decide) 2 rfl rfl (v := .int (iI cm)) rfl dX0_letCome_31 ?_
      refine k_iconst C dX0_letCome_34 ?_
      refine k_iadd C dX0_letCome_35 ?_
      refine k_nmI (fun v35 e35 => ?_)
      refine k_put C (Cn := RX0) (T := TX0) (N := 5) (ci := 0) (ref := "StruckCounts$Board") in_X0_letCome_X0 tyX0 tyX0_ok nmX0 0 rfl rfl 3 (by decide) 2 rfl rfl rfl (v := .int (iI v35)) (rfl) (rfl) (Nat.le_of_ble_eq_true rfl) [(b, .inr (0, [.ref t, .int (iI tl), .int (iI bd), .int (iI v35), .long (jL sk)]))] rfl dX0_letCome_36 ?_
      refine k_iconst C dX0_letCome_39 ?_
      exact k_zret C hR (by omega) (u := (1, v35, sk)) rfl (by (try dsimp only) <;> exact (Or.inr ⟨by omega, rfl, by omega, by first | (rw [if_pos c11]; exact s3) | (rw [if_neg c11]; assumption)⟩)) rfl (Nat.le_of_ble_eq_true rfl) (Nat.le_of_ble_eq_true rfl) dX0_letCome_40
    · skip
      refine k_aload_n C 0 rfl dX0_letCome_14 rfl ?_
      refine k_dup C dX0_letCome_15 rfl ?_
      refine k_get C (Cn := RX0) (T := TX0) (N := 5) (ci := 0) (ref := "StruckCounts$Board") in_X0_letCome_X0 0 rfl rfl 4 (by decide) 1 rfl rfl (v := .long (jL sk)) rfl dX0_letCome_16 ?_
      refine k_lconst C dX0_letCome_19 1 (by decide) ?_
      refine k_aload_n C 0 rfl dX0_letCome_20 rfl ?_
      refine k_get C (Cn := RX0) (T := TX0) (N := 5) (ci := 0) (ref := "StruckCounts$Board") in_X0_letCome_X0 0 rfl rfl 3 (by decide) 2 rfl rfl (v := .int (iI cm)) rfl dX0_letCome_21 ?_
      refine k_lshl C ((2 ^ k : Nat) : Int) (by rw [s2]; have := jl_shl 1 (k := (k : Int)) (by omega) (by omega); rw [Int.toNat_natCast, Nat.one_mul] at this; exact this) dX0_letCome_24 ?_
      refine k_nmL (fun v24 e24 => ?_)
      refine k_lor C ((m ||| 2 ^ k : Nat) : Int) (by rw [e24, s3]; exact jl_or m (2 ^ k)) dX0_letCome_25 ?_
      refine k_nmL (fun v25 e25 => ?_)
      refine k_put C (Cn := RX0) (T := TX0) (N := 5) (ci := 0) (ref := "StruckCounts$Board") in_X0_letCome_X0 tyX0 tyX0_ok nmX0 0 rfl rfl 4 (by decide) 1 rfl rfl rfl (v := .long (jL v25)) (rfl) (rfl) (Nat.le_of_ble_eq_true rfl) [(b, .inr (0, [.ref t, .int (iI tl), .int (iI bd), .int (iI cm), .long (jL v25)]))] rfl dX0_letCome_26 ?_
      refine k_aload_n C 0 rfl dX0_letCome_29 rfl ?_
      refine k_dup C dX0_letCome_30 rfl ?_
      refine k_get C (Cn := RX0) (T := TX0) (N := 5) (ci := 0) (ref := "StruckCounts$Board") in_X0_letCome_X0 0 rfl rfl 3 (by decide) 2 rfl rfl (v := .int (iI cm)) rfl dX0_letCome_31 ?_
      refine k_iconst C dX0_letCome_34 ?_
      refine k_iadd C dX0_letCome_35 ?_
      refine k_nmI (fun v35 e35 => ?_)
      refine k_put C (Cn := RX0) (T := TX0) (N := 5) (ci := 0) (ref := "StruckCounts$Board") in_X0_letCome_X0 tyX0 tyX0_ok nmX0 0 rfl rfl 3 (by decide) 2 rfl rfl rfl (v := .int (iI v35)) (rfl) (rfl) (Nat.le_of_ble_eq_true rfl) [(b, .inr (0, [.ref t, .int (iI tl), .int (iI bd), .int (iI v35), .long (jL v25)]))] rfl dX0_letCome_36 ?_
      refine k_iconst C dX0_letCome_39 ?_
      exact k_zret C hR (by omega) (u := (1, v35, v25)) rfl (by (try dsimp only) <;> exact (Or.inr ⟨by omega, rfl, by omega, by first | (rw [if_pos c11]; exact s3) | (rw [if_neg c11]; assumption)⟩)) rfl (Nat.le_of_ble_eq_true rfl) (Nat.le_of_ble_eq_true rfl) dX0_letCome_40
  · skip
    refine k_iconst C dX0_letCome_8 ?_
    exact k_zret C hR (by omega) (u := (0, cm, sk)) rfl (by (try dsimp only) <;> exact (Or.inl ⟨by omega, rfl, rfl, rfl⟩)) rfl (Nat.le_of_ble_eq_true rfl) (Nat.le_of_ble_eq_true rfl) dX0_letCome_9
theorem in_X0_tally_X0 : ∀ w ∈ wsX00, w ∈ wsX0_tally := by decide +kernel
set_option maxHeartbeats 4000000 in
set_option maxRecDepth 100000 in
theorem c_X0_tally (l : Launch) (G : KG) (b t va re su : Nat) (tl tb ts bd cm sk : Int) (n k m : Nat) (fv fr fs : Nat → Int) (hS : BdS n k m bd cm sk) (hT : BdT n k m tl tb ts fv fr fs) : Ct l G yX0_tally wsX0_tally (rmD 3 0 0) [.ref b] [(b, .inr (0, [.ref t, .int (iI tl), .int (iI bd), .int (iI cm), .long (jL sk)])), (t, .inr (3, [.ref va, .ref re, .ref su, .int (iI tb), .int (iI ts)])), (va, .inl (g_I G, 631, .inl (aI fv))), (re, .inl (g_I G, 2524, .inl (aI fr))), (su, .inl (g_J G, 631, .inr (.inl (aL fs))))] (fun u : Int × Int × (Nat → Int) × (Nat → Int) × (Nat → Int) => TlOK n k m u.1 u.2.1 u.2.2.1 u.2.2.2.1 u.2.2.2.2) (fun u : Int × Int × (Nat → Int) × (Nat → Int) × (Nat → Int) => some (.ref t)) (fun u : Int × Int × (Nat → Int) × (Nat → Int) × (Nat → Int) => [(b, .inr (0, [.ref t, .int (iI cm), .int (iI bd), .int (iI cm), .long (jL sk)])), (t, .inr (3, [.ref va, .ref re, .ref su, .int (iI u.1), .int (iI u.2.1)])), (va, .inl (g_I G, 631, .inl (aI u.2.2.1))), (re, .inl (g_I G, 2524, .inl (aI u.2.2.2.1))), (su, .inl (g_J G, 631, .inr (.inl (aL u.2.2.2.2))))]) := by
  refine Ct.of (cc := cX0_tally) (maxL := 1) (ret := (some (.object "StruckCounts$Tally"))) (by decide +kernel) rfl (Nat.le_of_ble_eq_true rfl) ?_
  intro X C hG hL hnm hR
  subst hG
  subst hL
  have C : Cx X cX0_tally RX0 wsX0_tally (some (.object "StruckCounts$Tally")) 1 (rmD 3 0 0) := C
  obtain ⟨s1, s2, s3, s4, s5, s6, s7⟩ := id hS
  have hm64 := m_lt s7 s6
  have htl := BdT_rng hT
  show K_ X 0 0 [(b, .inr (0, [.ref t, .int (iI tl), .int (iI bd), .int (iI cm), .long (jL sk)])), (t, .inr (3, [.ref va, .ref re, .ref su, .int (iI tb), .int (iI ts)])), (va, .inl (g_I (x_G X), 631, .inl (aI fv))), (re, .inl (g_I (x_G X), 2524, .inl (aI fr))), (su, .inl (g_J (x_G X), 631, .inr (.inl (aL fs))))] 0 [(0, .ref b)] []
  refine k_aload_n C 0 rfl dX0_tally_0 rfl ?_
  refine k_get C (Cn := RX0) (T := TX0) (N := 5) (ci := 0) (ref := "StruckCounts$Board") in_X0_tally_X0 0 rfl rfl 1 (by decide) 1 rfl rfl (v := .int (iI tl)) rfl dX0_tally_1 ?_
  refine k_iconst C dX0_tally_4 ?_
  refine k_icmp_ne C 24 (⟨by omega, by omega⟩) (⟨by omega, by omega⟩) dX0_tally_5 (by decide) (fun c5 => ?_) (fun c5 => ?_)
  · skip
    obtain ⟨t0, y1, y2, y3⟩ : ∃ t : Nat, t ≤ k ∧ tl = (t : Int) ∧ TlOK n t m tb ts fv fr fs := by rcases hT with z | z; exact absurd z c5; exact z
    have L24 : ∀ (nf : Nat) (tq : Nat) (tx : Int) (t3 : Int) (t4 : Int) (f1 : Nat → Int) (f2 : Nat → Int) (f3 : Nat → Int), (tx = (tq : Int) ∧ tq ≤ k ∧ TlOK n tq m t3 t4 f1 f2 f3) → k - tq < nf → K_ X 0 0 [(b, .inr (0, [.ref t, .int (iI tx), .int (iI bd), .int (iI cm), .long (jL sk)])), (t, .inr (3, [.ref va, .ref re, .ref su, .int (iI t3), .int (iI t4)])), (va, .inl (g_I (x_G X), 631, .inl (aI f1))), (re, .inl (g_I (x_G X), 2524, .inl (aI f2))), (su, .inl (g_J (x_G X), 631, .inr (.inl (aL f3))))] 24 [(0, .ref b)] [] := by
      intro nf
      induction nf with
      | zero => intro tq tx t3 t4 f1 f2 f3 hI hm; exact absurd hm (Nat.not_lt_zero _)
      | succ nf ih24 =>
        intro tq tx t3 t4 f1 f2 f3 hI24 hm24
        obtain ⟨i1, i2, i3⟩ := hI24
        refine k_aload_n C 0 rfl dX0_tally_24 rfl ?_
        refine k_get C (Cn := RX0) (T := TX0) (N := 5) (ci := 0) (ref := "StruckCounts$Board") in_X0_tally_X0 0 rfl rfl 1 (by decide) 1 rfl rfl (v := .int (iI tx)) rfl dX0_tally_25 ?_
        refine k_aload_n C 0 rfl dX0_tally_28 rfl ?_
        refine k_get C (Cn := RX0) (T := TX0) (N := 5) (ci := 0) (ref := "StruckCounts$Board") in_X0_tally_X0 0 rfl rfl 3 (by decide) 4 rfl rfl (v := .int (iI cm)) rfl dX0_tally_29 ?_
        refine k_icmp_ge C 74 (⟨by omega, by omega⟩) (⟨by omega, by omega⟩) dX0_tally_32 (by decide) (fun c32 => ?_) (fun c32 => ?_)
        · skip
          refine k_aload_n C 0 rfl dX0_tally_74 rfl ?_
          refine k_get C (Cn := RX0) (T := TX0) (N := 5) (ci := 0) (ref := "StruckCounts$Board") in_X0_tally_X0 0 rfl rfl 0 (by decide) 2 rfl rfl (v := .ref t) rfl dX0_tally_75 ?_
          rw [show tx = cm from (by omega)]
          exact k_aret C hR (Or.inl ⟨_, rfl⟩) (u := (t3, t4, f1, f2, f3)) rfl (by (try dsimp only) <;> exact (by have e : tq = k := (by omega); rw [e] at i3; exact i3)) rfl (Nat.le_of_ble_eq_true rfl) (Nat.le_of_ble_eq_true rfl) dX0_tally_78
        · skip
          refine k_aload_n C 0 rfl dX0_tally_35 rfl ?_
          refine k_aload_n C 0 rfl dX0_tally_36 rfl ?_
          refine k_get C (Cn := RX0) (T := TX0) (N := 5) (ci := 0) (ref := "StruckCounts$Board") in_X0_tally_X0 0 rfl rfl 1 (by decide) 1 rfl rfl (v := .int (iI tx)) rfl dX0_tally_37 ?_
          refine k_callV C (y := yX0_hasStruck) [.int (iI tx)] 1 rfl (c_X0_hasStruck (x_l X) (x_G X) b t tx bd cm sk tx m (by omega) (by omega) (by omega)) gX0_tally_X0_hasStruck rfl ⟨rfl, by decide +kernel, by decide +kernel, by decide +kernel⟩ ⟨by decide, by decide⟩ 0 (fs := [.ref t, .int (iI tx), .int (iI bd), .int (iI cm), .long (jL sk)]) rfl rfl rfl [0] (by decide) (wc := [(b, .inr (0, [.ref t, .int (iI tx), .int (iI bd), .int (iI cm), .long (jL sk)]))]) rfl [] rfl (Nat.le_of_ble_eq_true rfl) ⟨Nat.le_of_ble_eq_true rfl, Nat.le_of_ble_eq_true rfl⟩ dX0_tally_40 (fun _ => [(b, .inr (0, [.ref t, .int (iI tx), .int (iI bd), .int (iI cm), .long (jL sk)])), (t, .inr (3, [.ref va, .ref re, .ref su, .int (iI t3), .int (iI t4)])), (va, .inl (g_I (x_G X), 631, .inl (aI f1))), (re, .inl (g_I (x_G X), 2524, .inl (aI f2))), (su, .inl (g_J (x_G X), 631, .inr (.inl (aL f3))))]) (Or.inl (fun _ => ⟨rfl, rfl⟩)) (fun u40 => [.int (iI u40)]) (fun _ => rfl) 0 0 ⟨rfl, rfl⟩ (fun u40 hu40 => ?_)
          refine k_if_eq C 61 (⟨by omega, by omega⟩) dX0_tally_43 (by decide) (fun c43 => ?_) (fun c43 => ?_)
          · skip
            have hu40 := bo_f hu40 c43
            refine k_aload_n C 0 rfl dX0_tally_61 rfl ?_
            refine k_dup C dX0_tally_62 rfl ?_
            refine k_get C (Cn := RX0) (T := TX0) (N := 5) (ci := 0) (ref := "StruckCounts$Board") in_X0_tally_X0 0 rfl rfl 1 (by decide) 1 rfl rfl (v := .int (iI tx)) rfl dX0_tally_63 ?_
            refine k_iconst C dX0_tally_66 ?_
            refine k_iadd C dX0_tally_67 ?_
            refine k_nmI (fun v67 e67 => ?_)
            refine k_put C (Cn := RX0) (T := TX0) (N := 5) (ci := 0) (ref := "StruckCounts$Board") in_X0_tally_X0 tyX0 tyX0_ok nmX0 0 rfl rfl 1 (by decide) 1 rfl rfl rfl (v := .int (iI v67)) (rfl) (rfl) (Nat.le_of_ble_eq_true rfl) [(b, .inr (0, [.ref t, .int (iI v67), .int (iI bd), .int (iI cm), .long (jL sk)])), (t, .inr (3, [.ref va, .ref re, .ref su, .int (iI t3), .int (iI t4)])), (va, .inl (g_I (x_G X), 631, .inl (aI f1))), (re, .inl (g_I (x_G X), 2524, .inl (aI f2))), (su, .inl (g_J (x_G X), 631, .inr (.inl (aL f3))))] rfl dX0_tally_68 ?_
            refine k_goto C 24 dX0_tally_71 (by decide) ?_
            exact ih24 (tq + 1) v67 t3 t4 f1 f2 f3 (⟨by omega, by omega, by first | exact hu58 | (rw [i1, Int.toNat_natCast] at hu40; exact TlOK_spare i3 (by revert hu40; cases m.testBit tq <;> simp))⟩) (by omega)
          · skip
            have hu40 := bo_t hu40 c43
            refine k_aload_n C 0 rfl dX0_tally_46 rfl ?_
            refine k_get C (Cn := RX0) (T := TX0) (N := 5) (ci := 0) (ref := "StruckCounts$Board") in_X0_tally_X0 0 rfl rfl 0 (by decide) 2 rfl rfl (v := .ref t) rfl dX0_tally_47 ?_
            refine k_aload_n C 0 rfl dX0_tally_50 rfl ?_
            refine k_aload_n C 0 rfl dX0_tally_51 rfl ?_
            refine k_get C (Cn := RX0) (T := TX0) (N := 5) (ci := 0) (ref := "StruckCounts$Board") in_X0_tally_X0 0 rfl rfl 1 (by decide) 1 rfl rfl (v := .int (iI tx)) rfl dX0_tally_52 ?_
            refine k_callV C (y := yX0_primeAt) [.int (iI tx)] 1 rfl (c_X0_primeAt (x_l X) (x_G X) b t tx bd cm sk tx (by first | assumption | omega)) gX0_tally_X0_primeAt rfl ⟨rfl, by decide +kernel, by decide +kernel, by decide +kernel⟩ ⟨by decide, by decide⟩ 0 (fs := [.ref t, .int (iI tx), .int (iI bd), .int (iI cm), .long (jL sk)]) rfl rfl rfl [0] (by decide) (wc := [(b, .inr (0, [.ref t, .int (iI tx), .int (iI bd), .int (iI cm), .long (jL sk)]))]) rfl [.ref t] rfl (Nat.le_of_ble_eq_true rfl) ⟨Nat.le_of_ble_eq_true rfl, Nat.le_of_ble_eq_true rfl⟩ dX0_tally_55 (fun _ => [(b, .inr (0, [.ref t, .int (iI tx), .int (iI bd), .int (iI cm), .long (jL sk)])), (t, .inr (3, [.ref va, .ref re, .ref su, .int (iI t3), .int (iI t4)])), (va, .inl (g_I (x_G X), 631, .inl (aI f1))), (re, .inl (g_I (x_G X), 2524, .inl (aI f2))), (su, .inl (g_J (x_G X), 631, .inr (.inl (aL f3))))]) (Or.inl (fun _ => ⟨rfl, rfl⟩)) (fun u55 => [.int (iI u55), .ref t]) (fun _ => rfl) 0 0 ⟨rfl, rfl⟩ (fun u55 hu55 => ?_)
            refine k_callV C (y := yX3_remove) [.int (iI u55)] 1 rfl (c_X3_remove (x_l X) (x_G X) t va re su t3 t4 u55 n tq m f1 f2 f3 (⟨s4, s5⟩) (by omega) (by rw [hu55, i1]; exact pA_in (by omega)) (by rw [i1, Int.toNat_natCast] at hu40; exact hu40) (i3)) gX0_tally_X3_remove rfl ⟨rfl, by decide +kernel, by decide +kernel, by decide +kernel⟩ ⟨by decide, by decide⟩ 1 (fs := [.ref va, .ref re, .ref su, .int (iI t3), .int (iI t4)]) rfl rfl rfl [1, 2, 3, 4] (by decide) (wc := [(t, .inr (3, [.ref va, .ref re, .ref su, .int (iI t3), .int (iI t4)])), (va, .inl (g_I (x_G X), 631, .inl (aI f1))), (re, .inl (g_I (x_G X), 2524, .inl (aI f2))), (su, .inl (g_J (x_G X), 631, .inr (.inl (aL f3))))]) rfl [] rfl (Nat.le_of_ble_eq_true rfl) ⟨Nat.le_of_ble_eq_true rfl, Nat.le_of_ble_eq_true rfl⟩ dX0_tally_58 (fun u58 => [(b, .inr (0, [.ref t, .int (iI tx), .int (iI bd), .int (iI cm), .long (jL sk)])), (t, .inr (3, [.ref va, .ref re, .ref su, .int (iI t3), .int (iI t4)])), (va, .inl (g_I (x_G X), 631, .inl (aI f1))), (re, .inl (g_I (x_G X), 2524, .inl (aI u58.1))), (su, .inl (g_J (x_G X), 631, .inr (.inl (aL u58.2))))]) (Or.inr ⟨[0], [0, 1, 2, 3, 4], [(b, .inr (0, [.ref t, .int (iI tx), .int (iI bd), .int (iI cm), .long (jL sk)]))], rfl, by decide, by decide, by decide, fun _ => rfl⟩) (fun u58 => []) (fun _ => rfl) 0 0 ⟨rfl, rfl⟩ (fun u58 hu58 => ?_)
            refine k_aload_n C 0 rfl dX0_tally_61 rfl ?_
            refine k_dup C dX0_tally_62 rfl ?_
            refine k_get C (Cn := RX0) (T := TX0) (N := 5) (ci := 0) (ref := "StruckCounts$Board") in_X0_tally_X0 0 rfl rfl 1 (by decide) 1 rfl rfl (v := .int (iI tx)) rfl dX0_tally_63 ?_
            refine k_iconst C dX0_tally_66 ?_
            refine k_iadd C dX0_tally_67 ?_
            refine k_nmI (fun v67 e67 => ?_)
            refine k_put C (Cn := RX0) (T := TX0) (N := 5) (ci := 0) (ref := "StruckCounts$Board") in_X0_tally_X0 tyX0 tyX0_ok nmX0 0 rfl rfl 1 (by decide) 1 rfl rfl rfl (v := .int (iI v67)) (rfl) (rfl) (Nat.le_of_ble_eq_true rfl) [(b, .inr (0, [.ref t, .int (iI v67), .int (iI bd), .int (iI cm), .long (jL sk)])), (t, .inr (3, [.ref va, .ref re, .ref su, .int (iI t3), .int (iI t4)])), (va, .inl (g_I (x_G X), 631, .inl (aI f1))), (re, .inl (g_I (x_G X), 2524, .inl (aI u58.1))), (su, .inl (g_J (x_G X), 631, .inr (.inl (aL u58.2))))] rfl dX0_tally_68 ?_
            refine k_goto C 24 dX0_tally_71 (by decide) ?_
            exact ih24 (tq + 1) v67 t3 t4 f1 u58.1 u58.2 (⟨by omega, by omega, by first | exact hu58 | (rw [i1, Int.toNat_natCast] at hu40; exact TlOK_spare i3 (by revert hu40; cases m.testBit tq <;> simp))⟩) (by omega)
    exact L24 _ t0 tl tb ts fv fr fs (⟨y2, y1, y3⟩) (Nat.lt_succ_self _)
  · skip
    refine k_aload_n C 0 rfl dX0_tally_8 rfl ?_
    refine k_get C (Cn := RX0) (T := TX0) (N := 5) (ci := 0) (ref := "StruckCounts$Board") in_X0_tally_X0 0 rfl rfl 0 (by decide) 2 rfl rfl (v := .ref t) rfl dX0_tally_9 ?_
    refine k_aload_n C 0 rfl dX0_tally_12 rfl ?_
    refine k_get C (Cn := RX0) (T := TX0) (N := 5) (ci := 0) (ref := "StruckCounts$Board") in_X0_tally_X0 0 rfl rfl 2 (by decide) 3 rfl rfl (v := .int (iI bd)) rfl dX0_tally_13 ?_
    refine k_callV C (y := yX3_begin) [.int (iI bd)] 1 rfl (c_X3_begin (x_l X) (x_G X) t va re su tb ts bd n m fv fr fs (by omega) (by omega)) gX0_tally_X3_begin rfl ⟨rfl, by decide +kernel, by decide +kernel, by decide +kernel⟩ ⟨by decide, by decide⟩ 1 (fs := [.ref va, .ref re, .ref su, .int (iI tb), .int (iI ts)]) rfl rfl rfl [1, 2, 3, 4] (by decide) (wc := [(t, .inr (3, [.ref va, .ref re, .ref su, .int (iI tb), .int (iI ts)])), (va, .inl (g_I (x_G X), 631, .inl (aI fv))), (re, .inl (g_I (x_G X), 2524, .inl (aI fr))), (su, .inl (g_J (x_G X), 631, .inr (.inl (aL fs))))]) rfl [] rfl (Nat.le_of_ble_eq_true rfl) ⟨Nat.le_of_ble_eq_true rfl, Nat.le_of_ble_eq_true rfl⟩ dX0_tally_16 (fun u16 => [(b, .inr (0, [.ref t, .int (iI tl), .int (iI bd), .int (iI cm), .long (jL sk)])), (t, .inr (3, [.ref va, .ref re, .ref su, .int (iI bd), .int (iI u16.1)])), (va, .inl (g_I (x_G X), 631, .inl (aI u16.2.1))), (re, .inl (g_I (x_G X), 2524, .inl (aI u16.2.2.1))), (su, .inl (g_J (x_G X), 631, .inr (.inl (aL u16.2.2.2))))]) (Or.inr ⟨[0], [0, 1, 2, 3, 4], [(b, .inr (0, [.ref t, .int (iI tl), .int (iI bd), .int (iI cm), .long (jL sk)]))], rfl, by decide, by decide, by decide, fun _ => rfl⟩) (fun u16 => []) (fun _ => rfl) 0 0 ⟨rfl, rfl⟩ (fun u16 hu16 => ?_)
    refine k_aload_n C 0 rfl dX0_tally_19 rfl ?_
    refine k_iconst C dX0_tally_20 ?_
    refine k_put C (Cn := RX0) (T := TX0) (N := 5) (ci := 0) (ref := "StruckCounts$Board") in_X0_tally_X0 tyX0 tyX0_ok nmX0 0 rfl rfl 1 (by decide) 1 rfl rfl rfl (v := .int (iI 0)) (rfl) (rfl) (Nat.le_of_ble_eq_true rfl) [(b, .inr (0, [.ref t, .int (iI 0), .int (iI bd), .int (iI cm), .long (jL sk)])), (t, .inr (3, [.ref va, .ref re, .ref su, .int (iI bd), .int (iI u16.1)])), (va, .inl (g_I (x_G X), 631, .inl (aI u16.2.1))), (re, .inl (g_I (x_G X), 2524, .inl (aI u16.2.2.1))), (su, .inl (g_J (x_G X), 631, .inr (.inl (aL u16.2.2.2))))] rfl dX0_tally_21 ?_
    have L24 : ∀ (nf : Nat) (tq : Nat) (tx : Int) (t3 : Int) (t4 : Int) (f1 : Nat → Int) (f2 : Nat → Int) (f3 : Nat → Int), (tx = (tq : Int) ∧ tq ≤ k ∧ TlOK n tq m t3 t4 f1 f2 f3) → k - tq < nf → K_ X 0 0 [(b, .inr (0, [.ref t, .int (iI tx), .int (iI bd), .int (iI cm), .long (jL sk)])), (t, .inr (3, [.ref va, .ref re, .ref su, .int (iI t3), .int (iI t4)])), (va, .inl (g_I (x_G X), 631, .inl (aI f1))), (re, .inl (g_I (x_G X), 2524, .inl (aI f2))), (su, .inl (g_J (x_G X), 631, .inr (.inl (aL f3))))] 24 [(0, .ref b)] [] := by
      intro nf
      induction nf with
      | zero => intro tq tx t3 t4 f1 f2 f3 hI hm; exact absurd hm (Nat.not_lt_zero _)
      | succ nf ih24 =>
        intro tq tx t3 t4 f1 f2 f3 hI24 hm24
        obtain ⟨i1, i2, i3⟩ := hI24
        refine k_aload_n C 0 rfl dX0_tally_24 rfl ?_
        refine k_get C (Cn := RX0) (T := TX0) (N := 5) (ci := 0) (ref := "StruckCounts$Board") in_X0_tally_X0 0 rfl rfl 1 (by decide) 1 rfl rfl (v := .int (iI tx)) rfl dX0_tally_25 ?_
        refine k_aload_n C 0 rfl dX0_tally_28 rfl ?_
        refine k_get C (Cn := RX0) (T := TX0) (N := 5) (ci := 0) (ref := "StruckCounts$Board") in_X0_tally_X0 0 rfl rfl 3 (by decide) 4 rfl rfl (v := .int (iI cm)) rfl dX0_tally_29 ?_
        refine k_icmp_ge C 74 (⟨by omega, by omega⟩) (⟨by omega, by omega⟩) dX0_tally_32 (by decide) (fun c32 => ?_) (fun c32 => ?_)
        · skip
          refine k_aload_n C 0 rfl dX0_tally_74 rfl ?_
          refine k_get C (Cn := RX0) (T := TX0) (N := 5) (ci := 0) (ref := "StruckCounts$Board") in_X0_tally_X0 0 rfl rfl 0 (by decide) 2 rfl rfl (v := .ref t) rfl dX0_tally_75 ?_
          rw [show tx = cm from (by omega)]
          exact k_aret C hR (Or.inl ⟨_, rfl⟩) (u := (t3, t4, f1, f2, f3)) rfl (by (try dsimp only) <;> exact (by have e : tq = k := (by omega); rw [e] at i3; exact i3)) rfl (Nat.le_of_ble_eq_true rfl) (Nat.le_of_ble_eq_true rfl) dX0_tally_78
        · skip
          refine k_aload_n C 0 rfl dX0_tally_35 rfl ?_
          refine k_aload_n C 0 rfl dX0_tally_36 rfl ?_
          refine k_get C (Cn := RX0) (T := TX0) (N := 5) (ci := 0) (ref := "StruckCounts$Board") in_X0_tally_X0 0 rfl rfl 1 (by decide) 1 rfl rfl (v := .int (iI tx)) rfl dX0_tally_37 ?_
          refine k_callV C (y := yX0_hasStruck) [.int (iI tx)] 1 rfl (c_X0_hasStruck (x_l X) (x_G X) b t tx bd cm sk tx m (by omega) (by omega) (by omega)) gX0_tally_X0_hasStruck rfl ⟨rfl, by decide +kernel, by decide +kernel, by decide +kernel⟩ ⟨by decide, by decide⟩ 0 (fs := [.ref t, .int (iI tx), .int (iI bd), .int (iI cm), .long (jL sk)]) rfl rfl rfl [0] (by decide) (wc := [(b, .inr (0, [.ref t, .int (iI tx), .int (iI bd), .int (iI cm), .long (jL sk)]))]) rfl [] rfl (Nat.le_of_ble_eq_true rfl) ⟨Nat.le_of_ble_eq_true rfl, Nat.le_of_ble_eq_true rfl⟩ dX0_tally_40 (fun _ => [(b, .inr (0, [.ref t, .int (iI tx), .int (iI bd), .int (iI cm), .long (jL sk)])), (t, .inr (3, [.ref va, .ref re, .ref su, .int (iI t3), .int (iI t4)])), (va, .inl (g_I (x_G X), 631, .inl (aI f1))), (re, .inl (g_I (x_G X), 2524, .inl (aI f2))), (su, .inl (g_J (x_G X), 631, .inr (.inl (aL f3))))]) (Or.inl (fun _ => ⟨rfl, rfl⟩)) (fun u40 => [.int (iI u40)]) (fun _ => rfl) 0 0 ⟨rfl, rfl⟩ (fun u40 hu40 => ?_)
          refine k_if_eq C 61 (⟨by omega, by omega⟩) dX0_tally_43 (by decide) (fun c43 => ?_) (fun c43 => ?_)
          · skip
            have hu40 := bo_f hu40 c43
            refine k_aload_n C 0 rfl dX0_tally_61 rfl ?_
            refine k_dup C dX0_tally_62 rfl ?_
            refine k_get C (Cn := RX0) (T := TX0) (N := 5) (ci := 0) (ref := "StruckCounts$Board") in_X0_tally_X0 0 rfl rfl 1 (by decide) 1 rfl rfl (v := .int (iI tx)) rfl dX0_tally_63 ?_
            refine k_iconst C dX0_tally_66 ?_
            refine k_iadd C dX0_tally_67 ?_
            refine k_nmI (fun v67 e67 => ?_)
            refine k_put C (Cn := RX0) (T := TX0) (N := 5) (ci := 0) (ref := "StruckCounts$Board") in_X0_tally_X0 tyX0 tyX0_ok nmX0 0 rfl rfl 1 (by decide) 1 rfl rfl rfl (v := .int (iI v67)) (rfl) (rfl) (Nat.le_of_ble_eq_true rfl) [(b, .inr (0, [.ref t, .int (iI v67), .int (iI bd), .int (iI cm), .long (jL sk)])), (t, .inr (3, [.ref va, .ref re, .ref su, .int (iI t3), .int (iI t4)])), (va, .inl (g_I (x_G X), 631, .inl (aI f1))), (re, .inl (g_I (x_G X), 2524, .inl (aI f2))), (su, .inl (g_J (x_G X), 631, .inr (.inl (aL f3))))] rfl dX0_tally_68 ?_
            refine k_goto C 24 dX0_tally_71 (by decide) ?_
            exact ih24 (tq + 1) v67 t3 t4 f1 f2 f3 (⟨by omega, by omega, by first | exact hu58 | (rw [i1, Int.toNat_natCast] at hu40; exact TlOK_spare i3 (by revert hu40; cases m.testBit tq <;> simp))⟩) (by omega)
          · skip
            have hu40 := bo_t hu40 c43
            refine k_aload_n C 0 rfl dX0_tally_46 rfl ?_
            refine k_get C (Cn := RX0) (T := TX0) (N := 5) (ci := 0) (ref := "StruckCounts$Board") in_X0_tally_X0 0 rfl rfl 0 (by decide) 2 rfl rfl (v := .ref t) rfl dX0_tally_47 ?_
            refine k_aload_n C 0 rfl dX0_tally_50 rfl ?_
            refine k_aload_n C 0 rfl dX0_tally_51 rfl ?_
            refine k_get C (Cn := RX0) (T := TX0) (N := 5) (ci := 0) (ref := "StruckCounts$Board") in_X0_tally_X0 0 rfl rfl 1 (by decide) 1 rfl rfl (v := .int (iI tx)) rfl dX0_tally_52 ?_
            refine k_callV C (y := yX0_primeAt) [.int (iI tx)] 1 rfl (c_X0_primeAt (x_l X) (x_G X) b t tx bd cm sk tx (by first | assumption | omega)) gX0_tally_X0_primeAt rfl ⟨rfl, by decide +kernel, by decide +kernel, by decide +kernel⟩ ⟨by decide, by decide⟩ 0 (fs := [.ref t, .int (iI tx), .int (iI bd), .int (iI cm), .long (jL sk)]) rfl rfl rfl [0] (by decide) (wc := [(b, .inr (0, [.ref t, .int (iI tx), .int (iI bd), .int (iI cm), .long (jL sk)]))]) rfl [.ref t] rfl (Nat.le_of_ble_eq_true rfl) ⟨Nat.le_of_ble_eq_true rfl, Nat.le_of_ble_eq_true rfl⟩ dX0_tally_55 (fun _ => [(b, .inr (0, [.ref t, .int (iI tx), .int (iI bd), .int (iI cm), .long (jL sk)])), (t, .inr (3, [.ref va, .ref re, .ref su, .int (iI t3), .int (iI t4)])), (va, .inl (g_I (x_G X), 631, .inl (aI f1))), (re, .inl (g_I (x_G X), 2524, .inl (aI f2))), (su, .inl (g_J (x_G X), 631, .inr (.inl (aL f3))))]) (Or.inl (fun _ => ⟨rfl, rfl⟩)) (fun u55 => [.int (iI u55), .ref t]) (fun _ => rfl) 0 0 ⟨rfl, rfl⟩ (fun u55 hu55 => ?_)
            refine k_callV C (y := yX3_remove) [.int (iI u55)] 1 rfl (c_X3_remove (x_l X) (x_G X) t va re su t3 t4 u55 n tq m f1 f2 f3 (⟨s4, s5⟩) (by omega) (by rw [hu55, i1]; exact pA_in (by omega)) (by rw [i1, Int.toNat_natCast] at hu40; exact hu40) (i3)) gX0_tally_X3_remove rfl ⟨rfl, by decide +kernel, by decide +kernel, by decide +kernel⟩ ⟨by decide, by decide⟩ 1 (fs := [.ref va, .ref re, .ref su, .int (iI t3), .int (iI t4)]) rfl rfl rfl [1, 2, 3, 4] (by decide) (wc := [(t, .inr (3, [.ref va, .ref re, .ref su, .int (iI t3), .int (iI t4)])), (va, .inl (g_I (x_G X), 631, .inl (aI f1))), (re, .inl (g_I (x_G X), 2524, .inl (aI f2))), (su, .inl (g_J (x_G X), 631, .inr (.inl (aL f3))))]) rfl [] rfl (Nat.le_of_ble_eq_true rfl) ⟨Nat.le_of_ble_eq_true rfl, Nat.le_of_ble_eq_true rfl⟩ dX0_tally_58 (fun u58 => [(b, .inr (0, [.ref t, .int (iI tx), .int (iI bd), .int (iI cm), .long (jL sk)])), (t, .inr (3, [.ref va, .ref re, .ref su, .int (iI t3), .int (iI t4)])), (va, .inl (g_I (x_G X), 631, .inl (aI f1))), (re, .inl (g_I (x_G X), 2524, .inl (aI u58.1))), (su, .inl (g_J (x_G X), 631, .inr (.inl (aL u58.2))))]) (Or.inr ⟨[0], [0, 1, 2, 3, 4], [(b, .inr (0, [.ref t, .int (iI tx), .int (iI bd), .int (iI cm), .long (jL sk)]))], rfl, by decide, by decide, by decide, fun _ => rfl⟩) (fun u58 => []) (fun _ => rfl) 0 0 ⟨rfl, rfl⟩ (fun u58 hu58 => ?_)
            refine k_aload_n C 0 rfl dX0_tally_61 rfl ?_
            refine k_dup C dX0_tally_62 rfl ?_
            refine k_get C (Cn := RX0) (T := TX0) (N := 5) (ci := 0) (ref := "StruckCounts$Board") in_X0_tally_X0 0 rfl rfl 1 (by decide) 1 rfl rfl (v := .int (iI tx)) rfl dX0_tally_63 ?_
            refine k_iconst C dX0_tally_66 ?_
            refine k_iadd C dX0_tally_67 ?_
            refine k_nmI (fun v67 e67 => ?_)
            refine k_put C (Cn := RX0) (T := TX0) (N := 5) (ci := 0) (ref := "StruckCounts$Board") in_X0_tally_X0 tyX0 tyX0_ok nmX0 0 rfl rfl 1 (by decide) 1 rfl rfl rfl (v := .int (iI v67)) (rfl) (rfl) (Nat.le_of_ble_eq_true rfl) [(b, .inr (0, [.ref t, .int (iI v67), .int (iI bd), .int (iI cm), .long (jL sk)])), (t, .inr (3, [.ref va, .ref re, .ref su, .int (iI t3), .int (iI t4)])), (va, .inl (g_I (x_G X), 631, .inl (aI f1))), (re, .inl (g_I (x_G X), 2524, .inl (aI u58.1))), (su, .inl (g_J (x_G X), 631, .inr (.inl (aL u58.2))))] rfl dX0_tally_68 ?_
            refine k_goto C 24 dX0_tally_71 (by decide) ?_
            exact ih24 (tq + 1) v67 t3 t4 f1 u58.1 u58.2 (⟨by omega, by omega, by first | exact hu58 | (rw [i1, Int.toNat_natCast] at hu40; exact TlOK_spare i3 (by revert hu40; cases m.testBit tq <;> simp))⟩) (by omega)
    exact L24 _ 0 0 bd u16.1 u16.2.1 u16.2.2.1 u16.2.2.2 (⟨rfl, Nat.zero_le _, by rw [s1] at hu16; rw [s1]; exact hu16⟩) (Nat.lt_succ_self _)
set_option maxHeartbeats 4000000 in
set_option maxRecDepth 100000 in
theorem c_X0_countLeft (l : Launch) (G : KG) (b t va re su : Nat) (tl tb ts bd cm sk : Int) (n k m : Nat) (fv fr fs : Nat → Int) (hS : BdS n k m bd cm sk) (hT : BdT n k m tl tb ts fv fr fs) : Ct l G yX0_countLeft wsX0_countLeft (rmD 4 0 0) [.ref b] [(b, .inr (0, [.ref t, .int (iI tl), .int (iI bd), .int (iI cm), .long (jL sk)])), (t, .inr (3, [.ref va, .ref re, .ref su, .int (iI tb), .int (iI ts)])), (va, .inl (g_I G, 631, .inl (aI fv))), (re, .inl (g_I G, 2524, .inl (aI fr))), (su, .inl (g_J G, 631, .inr (.inl (aL fs))))] (fun u : Int × Int × Int × (Nat → Int) × (Nat → Int) × (Nat → Int) => TlOK n k m u.2.1 u.2.2.1 u.2.2.2.1 u.2.2.2.2.1 u.2.2.2.2.2 ∧ u.1 = (cA m k n : Int)) (fun u : Int × Int × Int × (Nat → Int) × (Nat → Int) × (Nat → Int) => some (.int (iI u.1))) (fun u : Int × Int × Int × (Nat → Int) × (Nat → Int) × (Nat → Int) => [(b, .inr (0, [.ref t, .int (iI cm), .int (iI bd), .int (iI cm), .long (jL sk)])), (t, .inr (3, [.ref va, .ref re, .ref su, .int (iI u.2.1), .int (iI u.2.2.1)])), (va, .inl (g_I G, 631, .inl (aI u.2.2.2.1))), (re, .inl (g_I G, 2524, .inl (aI u.2.2.2.2.1))), (su, .inl (g_J G, 631, .inr (.inl (aL u.2.2.2.2.2))))]) := by
  refine Ct.of (cc := cX0_countLeft) (maxL := 1) (ret := (some .int)) (by decide +kernel) rfl (Nat.le_of_ble_eq_true rfl) ?_
  intro X C hG hL hnm hR
  subst hG
  subst hL
  have C : Cx X cX0_countLeft RX0 wsX0_countLeft (some .int) 1 (rmD 4 0 0) := C
  obtain ⟨s1, s2, s3, s4, s5, s6, s7⟩ := id hS
  show K_ X 0 0 [(b, .inr (0, [.ref t, .int (iI tl), .int (iI bd), .int (iI cm), .long (jL sk)])), (t, .inr (3, [.ref va, .ref re, .ref su, .int (iI tb), .int (iI ts)])), (va, .inl (g_I (x_G X), 631, .inl (aI fv))), (re, .inl (g_I (x_G X), 2524, .inl (aI fr))), (su, .inl (g_J (x_G X), 631, .inr (.inl (aL fs))))] 0 [(0, .ref b)] []
  refine k_aload_n C 0 rfl dX0_countLeft_0 rfl ?_
  refine k_callV C (y := yX0_tally) [] 0 rfl (c_X0_tally (x_l X) (x_G X) b t va re su tl tb ts bd cm sk n k m fv fr fs (by assumption) (by assumption)) gX0_countLeft_X0_tally rfl ⟨rfl, by decide +kernel, by decide +kernel, by decide +kernel⟩ ⟨by decide, by decide⟩ 0 (fs := [.ref t, .int (iI tl), .int (iI bd), .int (iI cm), .long (jL sk)]) rfl rfl rfl [0, 1, 2, 3, 4] (by decide) (wc := [(b, .inr (0, [.ref t, .int (iI tl), .int (iI bd), .int (iI cm), .long (jL sk)])), (t, .inr (3, [.ref va, .ref re, .ref su, .int (iI tb), .int (iI ts)])), (va, .inl (g_I (x_G X), 631, .inl (aI fv))), (re, .inl (g_I (x_G X), 2524, .inl (aI fr))), (su, .inl (g_J (x_G X), 631, .inr (.inl (aL fs))))]) rfl [] rfl (Nat.le_of_ble_eq_true rfl) ⟨Nat.le_of_ble_eq_true rfl, Nat.le_of_ble_eq_true rfl⟩ dX0_countLeft_1 (fun u1 => [(b, .inr (0, [.ref t, .int (iI cm), .int (iI bd), .int (iI cm), .long (jL sk)])), (t, .inr (3, [.ref va, .ref re, .ref su, .int (iI u1.1), .int (iI u1.2.1)])), (va, .inl (g_I (x_G X), 631, .inl (aI u1.2.2.1))), (re, .inl (g_I (x_G X), 2524, .inl (aI u1.2.2.2.1))), (su, .inl (g_J (x_G X), 631, .inr (.inl (aL u1.2.2.2.2))))]) (Or.inr ⟨[], [0, 1, 2, 3, 4], [], rfl, by decide, by decide, by decide, fun _ => rfl⟩) (fun u1 => [.ref t]) (fun _ => rfl) 0 0 ⟨rfl, rfl⟩ (fun u1 hu1 => ?_)
  refine k_iconst C dX0_countLeft_4 ?_
  refine k_callV C (y := yX3_countAt) [.int (iI 0)] 1 rfl (c_X3_countAt (x_l X) (x_G X) t va re su u1.1 u1.2.1 0 u1.2.2.2.1 (by have := hu1.2.1; have := SZ_631 s5; omega) (by have := hu1.2.1; have := SZ_631 s5; omega)) gX0_countLeft_X3_countAt rfl ⟨rfl, by decide +kernel, by decide +kernel, by decide +kernel⟩ ⟨by decide, by decide⟩ 1 (fs := [.ref va, .ref re, .ref su, .int (iI u1.1), .int (iI u1.2.1)]) rfl rfl rfl [1, 3] (by decide) (wc := [(t, .inr (3, [.ref va, .ref re, .ref su, .int (iI u1.1), .int (iI u1.2.1)])), (re, .inl (g_I (x_G X), 2524, .inl (aI u1.2.2.2.1)))]) rfl [] rfl (Nat.le_of_ble_eq_true rfl) ⟨Nat.le_of_ble_eq_true rfl, Nat.le_of_ble_eq_true rfl⟩ dX0_countLeft_5 (fun _ => [(b, .inr (0, [.ref t, .int (iI cm), .int (iI bd), .int (iI cm), .long (jL sk)])), (t, .inr (3, [.ref va, .ref re, .ref su, .int (iI u1.1), .int (iI u1.2.1)])), (va, .inl (g_I (x_G X), 631, .inl (aI u1.2.2.1))), (re, .inl (g_I (x_G X), 2524, .inl (aI u1.2.2.2.1))), (su, .inl (g_J (x_G X), 631, .inr (.inl (aL u1.2.2.2.2))))]) (Or.inl (fun _ => ⟨rfl, rfl⟩)) (fun u5 => [.int (iI u5)]) (fun _ => rfl) 0 0 ⟨rfl, rfl⟩ (fun u5 hu5 => ?_)
  exact k_iret C hR (u := (u5, u1.1, u1.2.1, u1.2.2.1, u1.2.2.2.1, u1.2.2.2.2)) rfl (by (try dsimp only) <;> exact (⟨hu1, by rw [hu5]; have h := Tl_cnt hu1 (q := 0) (SZ_pos s4); rw [qv_0 s4] at h; exact h⟩)) rfl (Nat.le_of_ble_eq_true rfl) (Nat.le_of_ble_eq_true rfl) dX0_countLeft_8

set_option maxHeartbeats 4000000 in
set_option maxRecDepth 100000 in
theorem c_X0_letStrikeUpTo (l : Launch) (G : KG) (b t : Nat) (tl bd cm sk most : Int) (n k m : Nat) (hS : BdS n k m bd cm sk) (hmost : -2147483648 ≤ most ∧ most < 2147483648) : Ct l G yX0_letStrikeUpTo wsX0_letStrikeUpTo (rmD 3 0 0) [.ref b, .int (iI most)] [(b, .inr (0, [.ref t, .int (iI tl), .int (iI bd), .int (iI cm), .long (jL sk)]))] (fun u : Int × Int × Int => u.1 = (sj n most k : Int) ∧ BdS n (k + sj n most k) (msk m k (sj n most k)) bd u.2.1 u.2.2) (fun u : Int × Int × Int => some (.int (iI u.1))) (fun u : Int × Int × Int => [(b, .inr (0, [.ref t, .int (iI tl), .int (iI bd), .int (iI u.2.1), .long (jL u.2.2)]))]) := by
  refine Ct.of (cc := cX0_letStrikeUpTo) (maxL := 3) (ret := (some .int)) (by decide +kernel) rfl (Nat.le_of_ble_eq_true rfl) ?_
  intro X C hG hL hnm hR
  subst hG
  subst hL
  have C : Cx X cX0_letStrikeUpTo RX0 wsX0_letStrikeUpTo (some .int) 3 (rmD 3 0 0) := C
  show K_ X 0 0 [(b, .inr (0, [.ref t, .int (iI tl), .int (iI bd), .int (iI cm), .long (jL sk)]))] 0 [(0, .ref b), (1, .int (iI most))] []
  refine k_iconst C dX0_letStrikeUpTo_0 ?_
  refine k_istore_n C (lo' := [(2, .int (iI 0)), (0, .ref b), (1, .int (iI most))]) dX0_letStrikeUpTo_1 rfl (by decide) rfl ?_
  have L2 : ∀ (nf : Nat) (j : Nat) (st : Int) (c2 : Int) (s2 : Int), (st = (j : Int) ∧ j ≤ 40 ∧ (∀ i, i < j → nxI n (k + i) ≠ -1 ∧ nxI n (k + i) ≤ most) ∧ BdS n (k + j) (msk m k j) bd c2 s2) → 40 - j < nf → K_ X 0 0 [(b, .inr (0, [.ref t, .int (iI tl), .int (iI bd), .int (iI c2), .long (jL s2)]))] 2 [(2, .int (iI st)), (0, .ref b), (1, .int (iI most))] [] := by
    intro nf
    induction nf with
    | zero => intro j st c2 s2 hI hm; exact absurd hm (Nat.not_lt_zero _)
    | succ nf ih2 =>
      intro j st c2 s2 hI2 hm2
      obtain ⟨i1, i2, i3, i4⟩ := hI2
      have hkj := i4.2.2.2.2.2.1
      refine k_iload_n C 0 rfl dX0_letStrikeUpTo_2 rfl ?_
      refine k_bipush C dX0_letStrikeUpTo_3 (by decide) ?_
      refine k_icmp_ge C 30 (⟨by omega, by omega⟩) (⟨by omega, by omega⟩) dX0_letStrikeUpTo_5 (by decide) (fun c5 => ?_) (fun c5 => ?_)
      · skip
        refine k_iload_n C 0 rfl dX0_letStrikeUpTo_30 rfl ?_
        exact k_iret C hR (u := (st, c2, s2)) rfl (by (try dsimp only) <;> exact (by
            have hR : StoR n most k j := ⟨i3, fun z => by first | omega | (have := (nxI_some z.1).1; omega)⟩
            have e := sj_of hR
            rw [← e]
            first | exact ⟨i1, i4⟩ | (rcases hu18 with z | z; (rw [z.2.2.1, z.2.2.2]; exact ⟨i1, i4⟩); (exact absurd (z.2.1.symm.trans c21) (by decide))))) rfl (Nat.le_of_ble_eq_true rfl) (Nat.le_of_ble_eq_true rfl) dX0_letStrikeUpTo_31
      · skip
        refine k_aload_n C 1 rfl dX0_letStrikeUpTo_8 rfl ?_
        refine k_callV C (y := yX0_nextPrime) [] 0 rfl (c_X0_nextPrime (x_l X) (x_G X) b t tl bd c2 s2 n (k + j) (msk m k j) (by assumption)) gX0_letStrikeUpTo_X0_nextPrime rfl ⟨rfl, by decide +kernel, by decide +kernel, by decide +kernel⟩ ⟨by decide, by decide⟩ 0 (fs := [.ref t, .int (iI tl), .int (iI bd), .int (iI c2), .long (jL s2)]) rfl rfl rfl [0] (by decide) (wc := [(b, .inr (0, [.ref t, .int (iI tl), .int (iI bd), .int (iI c2), .long (jL s2)]))]) rfl [] rfl (Nat.le_of_ble_eq_true rfl) ⟨Nat.le_of_ble_eq_true rfl, Nat.le_of_ble_eq_true rfl⟩ dX0_letStrikeUpTo_9 (fun _ => [(b, .inr (0, [.ref t, .int (iI tl), .int (iI bd), .int (iI c2), .long (jL s2)]))]) (Or.inl (fun _ => ⟨rfl, rfl⟩)) (fun u9 => [.int (iI u9)]) (fun _ => rfl) 0 0 ⟨rfl, rfl⟩ (fun u9 hu9 => ?_)
        have hr := nxI_rng n (k + j)
        refine k_iload_n C 2 rfl dX0_letStrikeUpTo_12 rfl ?_
        refine k_icmp_gt C 30 (⟨by omega, by omega⟩) (⟨by omega, by omega⟩) dX0_letStrikeUpTo_13 (by decide) (fun c13 => ?_) (fun c13 => ?_)
        · skip
          refine k_iload_n C 0 rfl dX0_letStrikeUpTo_30 rfl ?_
          exact k_iret C hR (u := (st, c2, s2)) rfl (by (try dsimp only) <;> exact (by
            have hR : StoR n most k j := ⟨i3, fun z => by first | omega | (have := (nxI_some z.1).1; omega)⟩
            have e := sj_of hR
            rw [← e]
            first | exact ⟨i1, i4⟩ | (rcases hu18 with z | z; (rw [z.2.2.1, z.2.2.2]; exact ⟨i1, i4⟩); (exact absurd (z.2.1.symm.trans c21) (by decide))))) rfl (Nat.le_of_ble_eq_true rfl) (Nat.le_of_ble_eq_true rfl) dX0_letStrikeUpTo_31
        · skip
          refine k_aload_n C 1 rfl dX0_letStrikeUpTo_16 rfl ?_
          refine k_iconst C dX0_letStrikeUpTo_17 ?_
          refine k_callV C (y := yX0_letCome) [.int (iI 1)] 1 rfl (c_X0_letCome (x_l X) (x_G X) b t tl bd c2 s2 1 n (k + j) (msk m k j) (i4) (Or.inr rfl)) gX0_letStrikeUpTo_X0_letCome rfl ⟨rfl, by decide +kernel, by decide +kernel, by decide +kernel⟩ ⟨by decide, by decide⟩ 0 (fs := [.ref t, .int (iI tl), .int (iI bd), .int (iI c2), .long (jL s2)]) rfl rfl rfl [0] (by decide) (wc := [(b, .inr (0, [.ref t, .int (iI tl), .int (iI bd), .int (iI c2), .long (jL s2)]))]) rfl [] rfl (Nat.le_of_ble_eq_true rfl) ⟨Nat.le_of_ble_eq_true rfl, Nat.le_of_ble_eq_true rfl⟩ dX0_letStrikeUpTo_18 (fun u18 => [(b, .inr (0, [.ref t, .int (iI tl), .int (iI bd), .int (iI u18.2.1), .long (jL u18.2.2)]))]) (Or.inr ⟨[], [0], [], rfl, by decide, by decide, by decide, fun _ => rfl⟩) (fun u18 => [.int (iI u18.1)]) (fun _ => rfl) 0 0 ⟨rfl, rfl⟩ (fun u18 hu18 => ?_)
          refine k_if_eq C 30 (⟨by omega, by omega⟩) dX0_letStrikeUpTo_21 (by decide) (fun c21 => ?_) (fun c21 => ?_)
          · skip
            refine k_iload_n C 0 rfl dX0_letStrikeUpTo_30 rfl ?_
            exact k_iret C hR (u := (st, u18.2.1, u18.2.2)) rfl (by (try dsimp only) <;> exact (by
            have hR : StoR n most k j := ⟨i3, fun z => by first | omega | (have := (nxI_some z.1).1; omega)⟩
            have e := sj_of hR
            rw [← e]
            first | exact ⟨i1, i4⟩ | (rcases hu18 with z | z; (rw [z.2.2.1, z.2.2.2]; exact ⟨i1, i4⟩); (exact absurd (z.2.1.symm.trans c21) (by decide))))) rfl (Nat.le_of_ble_eq_true rfl) (Nat.le_of_ble_eq_true rfl) dX0_letStrikeUpTo_31
          · skip
            obtain ⟨z1, z2, z3, z4⟩ := hu18.resolve_left (fun z => c21 z.2.1)
            obtain ⟨v24, e24⟩ : ∃ y : Int, y = st + 1 := ⟨_, rfl⟩
            refine k_iinc C (lo' := [(2, .int (iI v24)), (0, .ref b), (1, .int (iI most))]) 0 rfl dX0_letStrikeUpTo_24 (by decide) v24 e24 rfl ?_
            refine k_goto C 2 dX0_letStrikeUpTo_27 (by decide) ?_
            exact ih2 (j + 1) v24 u18.2.1 u18.2.2 (⟨by omega, by omega, fun i hi => by
                by_cases e : i < j
                · exact i3 i e
                · rw [show i = j by omega, ← hu9]; exact ⟨by omega, by omega⟩, by
                have := BdS_next i4 (s := 1) (cm2 := u18.2.1) (sk2 := u18.2.2) (nxI_some z1).1 z3 z4
                rw [if_neg (by decide)] at this; exact this⟩) (by omega)
  exact L2 _ 0 0 cm sk (⟨rfl, by omega, fun i hi => absurd hi (Nat.not_lt_zero i), hS⟩) (Nat.lt_succ_self _)
end
section
theorem mB85 : ((mB 85 8 : Nat) : Int) = 6148914691236517205 := by decide
theorem mB51 : ((mB 51 8 : Nat) : Int) = 3689348814741910323 := by decide
theorem mB15 : ((mB 15 8 : Nat) : Int) = 1085102592571150095 := by decide
set_option maxHeartbeats 4000000 in
set_option maxRecDepth 100000 in
theorem c_J13_bitCount_95d88 (l : Launch) (G : KG) (x : Int) (w : Nat) (hx : x = (w : Int)) (hw : w < 2 ^ 64) : Ct l G yJ13_bitCount_95d88 wsJ13_bitCount_95d88 (rmD 0 0 0) [.long (jL x)] [] (fun u : Int => u = (popc w : Int)) (fun u : Int => some (.int (iI u))) (fun u : Int => []) := by
  refine Ct.of (cc := cJ13_bitCount_95d88) (maxL := 2) (ret := (some .int)) (by decide +kernel) rfl (Nat.le_of_ble_eq_true rfl) ?_
  intro X C hG hL hnm hR
  subst hG
  subst hL
  have C : Cx X cJ13_bitCount_95d88 RJ13 wsJ13_bitCount_95d88 (some .int) 2 (rmD 0 0 0) := C
  have q1 : (w / 2 &&& mB 85 8) ≤ w := Nat.le_trans Nat.and_le_left (Nat.div_le_self _ _)
  have q2 : (s1 w 8 &&& mB 51 8) ≤ mB 51 8 := Nat.and_le_right
  have q3 : (s1 w 8 / 4 &&& mB 51 8) ≤ mB 51 8 := Nat.and_le_right
  have q4 : s3 (s2 (s1 w 8) 8) 8 ≤ mB 15 8 := Nat.and_le_right
  have m1 : mB 51 8 = 3689348814741910323 := by decide
  have m2 : mB 15 8 = 1085102592571150095 := by decide
  have q5 := s1_le w
  have q6 : s2 (s1 w 8) 8 = (s1 w 8 &&& mB 51 8) + (s1 w 8 / 4 &&& mB 51 8) := rfl
  show K_ X 0 0 [] 0 [(0, .long (jL x))] []
  refine k_lload_n C 0 rfl dJ13_bitCount_95d88_0 rfl ?_
  refine k_lload_n C 0 rfl dJ13_bitCount_95d88_1 rfl ?_
  refine k_iconst C dJ13_bitCount_95d88_2 ?_
  refine k_lushr C ((w / 2 : Nat) : Int) (by rw [hx]; exact jl_shr (k := 1) hw (by decide) (by decide)) dJ13_bitCount_95d88_3 ?_
  refine k_nmL (fun v3 e3 => ?_)
  refine k_ldc2 C 6148914691236517205 1 rfl (by decide) dJ13_bitCount_95d88_4 ?_
  refine k_land C ((w / 2 &&& mB 85 8 : Nat) : Int) (by rw [e3, ← mB85]; exact jl_and _ _) dJ13_bitCount_95d88_7 ?_
  refine k_nmL (fun v7 e7 => ?_)
  refine k_lsub C dJ13_bitCount_95d88_8 ?_
  refine k_nmL (fun v8 e8 => ?_)
  have h8 : v8 = ((s1 w 8 : Nat) : Int) := by rw [e8, hx, e7]; unfold s1; omega
  refine k_lstore_n C (lo' := [(0, .long (jL v8))]) dJ13_bitCount_95d88_9 rfl (by decide) rfl ?_
  refine k_lload_n C 0 rfl dJ13_bitCount_95d88_10 rfl ?_
  refine k_ldc2 C 3689348814741910323 2 rfl (by decide) dJ13_bitCount_95d88_11 ?_
  refine k_land C ((s1 w 8 &&& mB 51 8 : Nat) : Int) (by rw [h8, ← mB51]; exact jl_and _ _) dJ13_bitCount_95d88_14 ?_
  refine k_nmL (fun v14 e14 => ?_)
  refine k_lload_n C 0 rfl dJ13_bitCount_95d88_15 rfl ?_
  refine k_iconst C dJ13_bitCount_95d88_16 ?_
  refine k_lushr C ((s1 w 8 / 4 : Nat) : Int) (by rw [h8]; exact jl_shr (k := 2) (by omega) (by decide) (by decide)) dJ13_bitCount_95d88_17 ?_
  refine k_nmL (fun v17 e17 => ?_)
  refine k_ldc2 C 3689348814741910323 2 rfl (by decide) dJ13_bitCount_95d88_18 ?_
  refine k_land C ((s1 w 8 / 4 &&& mB 51 8 : Nat) : Int) (by rw [e17, ← mB51]; exact jl_and _ _) dJ13_bitCount_95d88_21 ?_
  refine k_nmL (fun v21 e21 => ?_)
  refine k_ladd C dJ13_bitCount_95d88_22 ?_
  refine k_nmL (fun v22 e22 => ?_)
  have h22 : v22 = ((s2 (s1 w 8) 8 : Nat) : Int) := by rw [e22, e14, e21]; unfold s2; omega
  refine k_lstore_n C (lo' := [(0, .long (jL v22))]) dJ13_bitCount_95d88_23 rfl (by decide) rfl ?_
  refine k_lload_n C 0 rfl dJ13_bitCount_95d88_24 rfl ?_
  refine k_lload_n C 0 rfl dJ13_bitCount_95d88_25 rfl ?_
  refine k_iconst C dJ13_bitCount_95d88_26 ?_
  refine k_lushr C ((s2 (s1 w 8) 8 / 16 : Nat) : Int) (by rw [h22]; exact jl_shr (k := 4) (by omega) (by decide) (by decide)) dJ13_bitCount_95d88_27 ?_
  refine k_nmL (fun v27 e27 => ?_)
  refine k_ladd C dJ13_bitCount_95d88_28 ?_
  refine k_nmL (fun v28 e28 => ?_)
  have h28 : v28 = ((s2 (s1 w 8) 8 + s2 (s1 w 8) 8 / 16 : Nat) : Int) := by rw [e28, h22, e27]; omega
  refine k_ldc2 C 1085102592571150095 3 rfl (by decide) dJ13_bitCount_95d88_29 ?_
  refine k_land C ((s3 (s2 (s1 w 8) 8) 8 : Nat) : Int) (by rw [h28, ← mB15]; exact jl_and _ _) dJ13_bitCount_95d88_32 ?_
  refine k_nmL (fun v32 e32 => ?_)
  refine k_lstore_n C (lo' := [(0, .long (jL v32))]) dJ13_bitCount_95d88_33 rfl (by decide) rfl ?_
  refine k_lload_n C 0 rfl dJ13_bitCount_95d88_34 rfl ?_
  refine k_lload_n C 0 rfl dJ13_bitCount_95d88_35 rfl ?_
  refine k_bipush C dJ13_bitCount_95d88_36 (by decide) ?_
  refine k_lushr C ((s3 (s2 (s1 w 8) 8) 8 / 256 : Nat) : Int) (by rw [e32]; exact jl_shr (k := 8) (by omega) (by decide) (by decide)) dJ13_bitCount_95d88_38 ?_
  refine k_nmL (fun v38 e38 => ?_)
  refine k_ladd C dJ13_bitCount_95d88_39 ?_
  refine k_nmL (fun v39 e39 => ?_)
  have h39 : v39 = ((s3 (s2 (s1 w 8) 8) 8 + s3 (s2 (s1 w 8) 8) 8 / 256 : Nat) : Int) := by rw [e39, e32, e38]; omega
  refine k_lstore_n C (lo' := [(0, .long (jL v39))]) dJ13_bitCount_95d88_40 rfl (by decide) rfl ?_
  refine k_lload_n C 0 rfl dJ13_bitCount_95d88_41 rfl ?_
  refine k_lload_n C 0 rfl dJ13_bitCount_95d88_42 rfl ?_
  refine k_bipush C dJ13_bitCount_95d88_43 (by decide) ?_
  refine k_lushr C (((s3 (s2 (s1 w 8) 8) 8 + s3 (s2 (s1 w 8) 8) 8 / 256) / 65536 : Nat) : Int) (by rw [h39]; exact jl_shr (k := 16) (by omega) (by decide) (by decide)) dJ13_bitCount_95d88_45 ?_
  refine k_nmL (fun v45 e45 => ?_)
  refine k_ladd C dJ13_bitCount_95d88_46 ?_
  refine k_nmL (fun v46 e46 => ?_)
  have h46 : v46 = (((s3 (s2 (s1 w 8) 8) 8 + s3 (s2 (s1 w 8) 8) 8 / 256) + (s3 (s2 (s1 w 8) 8) 8 + s3 (s2 (s1 w 8) 8) 8 / 256) / 65536 : Nat) : Int) := by rw [e46, h39, e45]; omega
  refine k_lstore_n C (lo' := [(0, .long (jL v46))]) dJ13_bitCount_95d88_47 rfl (by decide) rfl ?_
  refine k_lload_n C 0 rfl dJ13_bitCount_95d88_48 rfl ?_
  refine k_lload_n C 0 rfl dJ13_bitCount_95d88_49 rfl ?_
  refine k_bipush C dJ13_bitCount_95d88_50 (by decide) ?_
  refine k_lushr C ((((s3 (s2 (s1 w 8) 8) 8 + s3 (s2 (s1 w 8) 8) 8 / 256) + (s3 (s2 (s1 w 8) 8) 8 + s3 (s2 (s1 w 8) 8) 8 / 256) / 65536) / 4294967296 : Nat) : Int) (by rw [h46]; exact jl_shr (k := 32) (by omega) (by decide) (by decide)) dJ13_bitCount_95d88_52 ?_
  refine k_nmL (fun v52 e52 => ?_)
  refine k_ladd C dJ13_bitCount_95d88_53 ?_
  refine k_nmL (fun v53 e53 => ?_)
  refine k_lstore_n C (lo' := [(0, .long (jL v53))]) dJ13_bitCount_95d88_54 rfl (by decide) rfl ?_
  refine k_lload_n C 0 rfl dJ13_bitCount_95d88_55 rfl ?_
  refine k_l2i C dJ13_bitCount_95d88_56 ?_
  refine k_bipush C dJ13_bitCount_95d88_57 (by decide) ?_
  refine k_iand C (v53 % 128) (iI_mask v53 7 (by decide)) dJ13_bitCount_95d88_59 ?_
  refine k_nmI (fun v59 e59 => ?_)
  exact k_iret C hR (u := v59) rfl (by have := swar w; unfold fold3 at this; omega) rfl (Nat.le_of_ble_eq_true rfl) (Nat.le_of_ble_eq_true rfl) dJ13_bitCount_95d88_60
end
section
theorem se_popc0 {g : Nat → Nat} {w : Nat} (h : popc w = 0) : se g (fun j => w.testBit j) 64 = 0 := by
  have key : ∀ n, n ≤ 64 → se g (fun j => w.testBit j) n = 0 := by
    intro n
    induction n with
    | zero => intro _; rfl
    | succ n ih =>
      intro hn
      show se g _ n + _ = 0
      rw [ih (by omega)]
      have h1 := ce_mono (fun b => w.testBit b) (show n + 1 ≤ 64 by omega)
      have h2 : ce (fun b => w.testBit b) (n + 1) = ce (fun b => w.testBit b) n + if w.testBit n then 1 else 0 := rfl
      unfold popc at h
      by_cases q : w.testBit n = true
      · rw [if_pos q] at h2; omega
      · rw [if_neg q]
  exact key 64 (Nat.le_refl _)
theorem mask5 (j : Nat) : Nat.testBit 6148914691236517205 (j % 64) = (j % 2 == 0) := by
  have h := all_lt (N := 64) (P := fun j => Nat.testBit 6148914691236517205 j == (j % 2 == 0)) (by decide +kernel) (Nat.mod_lt j (show 0 < 64 by decide))
  rw [eq_of_beq h, show j % 64 % 2 = j % 2 by omega]
theorem maskA (j : Nat) : Nat.testBit 12297829382473034410 (j % 64) = (j % 2 == 1) := by
  have h := all_lt (N := 64) (P := fun j => Nat.testBit 12297829382473034410 j == (j % 2 == 1)) (by decide +kernel) (Nat.mod_lt j (show 0 < 64 by decide))
  rw [eq_of_beq h, show j % 64 % 2 = j % 2 by omega]
end
section
theorem row_start {f1 g : Nat → Int} {i x : Int} (hg : g = upI f1 (0 : Int).toNat x) (hx : x = 18446744073709551614) (h : ∀ q, q < i.toNat → f1 q = 18446744073709551615) (hi : 782 ≤ i) : RowC (Cs 0) g := by
  intro q hq
  rw [hg]
  by_cases e : q = 0
  · subst e
    rw [show (0 : Int).toNat = 0 from rfl, upI_s, hx]
    have : (18446744073709551614 : Nat) = bN (fun b => Cs 0 (64 * 0 + b)) 64 := bN_of (by decide) fun j hj => by
      have h2 := all_lt (N := 64) (P := fun j => Nat.testBit 18446744073709551614 j == Cs 0 (64 * 0 + j)) (by decide +kernel) hj
      exact eq_of_beq h2
    rw [← this]; rfl
  · rw [show (0 : Int).toNat = 0 from rfl, upI_n e, h q (by omega)]
    have : (18446744073709551615 : Nat) = bN (fun b => Cs 0 (64 * q + b)) 64 := bN_of (by decide) fun j hj => by
      rw [show (18446744073709551615 : Nat) = 2 ^ 64 - 1 from rfl, Nat.testBit_two_pow_sub_one, decide_eq_true hj]
      exact (decide_eq_true (show 64 * q + j ≠ 0 by omega)).symm
    rw [← this]; rfl
theorem in_X3_init_X3 : ∀ w ∈ wsX30, w ∈ wsX3_init := by decide +kernel
set_option maxHeartbeats 4000000 in
set_option maxRecDepth 100000 in
theorem c_X3_init (l : Launch) (G : KG) (t : Nat)  : Ct l G yX3_init wsX3_init (rmD 1 3 3786) [.ref t] [(t, .inr (3, [.null, .null, .null, .int (iI 0), .int (iI 0)]))] (fun u : Nat × Nat × Nat => True) (fun u : Nat × Nat × Nat => none) (fun u : Nat × Nat × Nat => [(t, .inr (3, [.ref u.1, .ref u.2.1, .ref u.2.2, .int (iI 0), .int (iI 0)])), (u.1, .inl (g_I G, 631, .inl (aI (fun _ => 0)))), (u.2.1, .inl (g_I G, 2524, .inl (aI (fun _ => 0)))), (u.2.2, .inl (g_J G, 631, .inr (.inl (aL (fun _ => 0)))))]) := by
  refine Ct.of (cc := cX3_init) (maxL := 1) (ret := none) (by decide +kernel) rfl (Nat.le_of_ble_eq_true rfl) ?_
  intro X C hG hL hnm hR
  subst hG
  subst hL
  have C : Cx X cX3_init RX3 wsX3_init none 1 (rmD 1 3 3786) := C
  show K_ X 0 0 [(t, .inr (3, [.null, .null, .null, .int (iI 0), .int (iI 0)]))] 0 [(0, .ref t)] []
  refine k_aload_n C 0 rfl dX3_init_0 rfl ?_
  refine k_objInit C 1 2 3 rfl rfl rfl (by decide) (Nat.le_of_ble_eq_true rfl) dX3_init_1 ?_
  refine k_aload_n C 0 rfl dX3_init_4 rfl ?_
  refine k_sipush C dX3_init_5 (by decide) ?_
  refine k_newI C 631 rfl (by decide) 4 rfl (Nat.le_of_ble_eq_true rfl) (Nat.le_of_ble_eq_true rfl) dX3_init_8 (fun q8 => ?_)
  refine k_eq (ws2 := [(t, .inr (3, [.null, .null, .null, .int (iI 0), .int (iI 0)])), (q8, .inl (g_I (x_G X), 631, .inl (aI (fun _ => 0))))]) (st2 := [.ref q8, .ref t]) rfl rfl rfl rfl ?_
  refine k_wide (k2 := 1) (j2 := 631) (Nat.le_refl _) (Nat.le_refl _) ?_
  refine k_putF C (Cn := RX3) (T := TX3) (N := 5) (ci := 3) (ref := "StruckCounts$Tally") in_X3_init_X3 tyX3 tyX3_ok nmX3 0 rfl rfl 0 (by decide) 5 rfl rfl rfl hnm rfl (v := .ref q8) (rfl) (rfl) (Nat.le_of_ble_eq_true rfl) [(t, .inr (3, [.ref q8, .null, .null, .int (iI 0), .int (iI 0)])), (q8, .inl (g_I (x_G X), 631, .inl (aI (fun _ => 0))))] rfl dX3_init_10 ?_
  refine k_aload_n C 0 rfl dX3_init_13 rfl ?_
  refine k_sipush C dX3_init_14 (by decide) ?_
  refine k_newI C 2524 rfl (by decide) 4 rfl (Nat.le_of_ble_eq_true rfl) (Nat.le_of_ble_eq_true rfl) dX3_init_17 (fun q17 => ?_)
  refine k_eq (ws2 := [(t, .inr (3, [.ref q8, .null, .null, .int (iI 0), .int (iI 0)])), (q8, .inl (g_I (x_G X), 631, .inl (aI (fun _ => 0)))), (q17, .inl (g_I (x_G X), 2524, .inl (aI (fun _ => 0))))]) (st2 := [.ref q17, .ref t]) rfl rfl rfl rfl ?_
  refine k_wide (k2 := 2) (j2 := 3155) (Nat.le_refl _) (Nat.le_refl _) ?_
  refine k_putF C (Cn := RX3) (T := TX3) (N := 5) (ci := 3) (ref := "StruckCounts$Tally") in_X3_init_X3 tyX3 tyX3_ok nmX3 0 rfl rfl 1 (by decide) 6 rfl rfl rfl hnm rfl (v := .ref q17) (rfl) (rfl) (Nat.le_of_ble_eq_true rfl) [(t, .inr (3, [.ref q8, .ref q17, .null, .int (iI 0), .int (iI 0)])), (q8, .inl (g_I (x_G X), 631, .inl (aI (fun _ => 0)))), (q17, .inl (g_I (x_G X), 2524, .inl (aI (fun _ => 0))))] rfl dX3_init_19 ?_
  refine k_aload_n C 0 rfl dX3_init_22 rfl ?_
  refine k_sipush C dX3_init_23 (by decide) ?_
  refine k_newJ C 631 rfl (by decide) 7 rfl (Nat.le_of_ble_eq_true rfl) (Nat.le_of_ble_eq_true rfl) dX3_init_26 (fun q26 => ?_)
  refine k_eq (ws2 := [(t, .inr (3, [.ref q8, .ref q17, .null, .int (iI 0), .int (iI 0)])), (q8, .inl (g_I (x_G X), 631, .inl (aI (fun _ => 0)))), (q17, .inl (g_I (x_G X), 2524, .inl (aI (fun _ => 0)))), (q26, .inl (g_J (x_G X), 631, .inr (.inl (aL (fun _ => 0)))))]) (st2 := [.ref q26, .ref t]) rfl rfl rfl rfl ?_
  refine k_wide (k2 := 3) (j2 := 3786) (Nat.le_refl _) (Nat.le_refl _) ?_
  refine k_putF C (Cn := RX3) (T := TX3) (N := 5) (ci := 3) (ref := "StruckCounts$Tally") in_X3_init_X3 tyX3 tyX3_ok nmX3 0 rfl rfl 2 (by decide) 8 rfl rfl rfl hnm rfl (v := .ref q26) (rfl) (rfl) (Nat.le_of_ble_eq_true rfl) [(t, .inr (3, [.ref q8, .ref q17, .ref q26, .int (iI 0), .int (iI 0)])), (q8, .inl (g_I (x_G X), 631, .inl (aI (fun _ => 0)))), (q17, .inl (g_I (x_G X), 2524, .inl (aI (fun _ => 0)))), (q26, .inl (g_J (x_G X), 631, .inr (.inl (aL (fun _ => 0)))))] rfl dX3_init_28 ?_
  exact k_vret C hR (u := (q8, q17, q26)) rfl (by (try dsimp only) <;> exact (trivial)) rfl (Nat.le_of_ble_eq_true rfl) (Nat.le_of_ble_eq_true rfl) dX3_init_31
theorem in_X0_init_X3 : ∀ w ∈ wsX30, w ∈ wsX0_init := by decide +kernel
theorem in_X0_init_X0 : ∀ w ∈ wsX00, w ∈ wsX0_init := by decide +kernel
set_option maxHeartbeats 4000000 in
set_option maxRecDepth 100000 in
theorem c_X0_init (l : Launch) (G : KG) (b : Nat)  : Ct l G yX0_init wsX0_init (rmD 2 4 3791) [.ref b] [(b, .inr (0, [.null, .int (iI 0), .int (iI 0), .int (iI 0), .long (jL 0)]))] (fun u : Nat × Nat × Nat × Nat => True) (fun u : Nat × Nat × Nat × Nat => none) (fun u : Nat × Nat × Nat × Nat => [(b, .inr (0, [.ref u.1, .int (iI (-1)), .int (iI 100), .int (iI 0), .long (jL 0)])), (u.1, .inr (3, [.ref u.2.1, .ref u.2.2.1, .ref u.2.2.2, .int (iI 0), .int (iI 0)])), (u.2.1, .inl (g_I G, 631, .inl (aI (fun _ => 0)))), (u.2.2.1, .inl (g_I G, 2524, .inl (aI (fun _ => 0)))), (u.2.2.2, .inl (g_J G, 631, .inr (.inl (aL (fun _ => 0)))))]) := by
  refine Ct.of (cc := cX0_init) (maxL := 1) (ret := none) (by decide +kernel) rfl (Nat.le_of_ble_eq_true rfl) ?_
  intro X C hG hL hnm hR
  subst hG
  subst hL
  have C : Cx X cX0_init RX0 wsX0_init none 1 (rmD 2 4 3791) := C
  show K_ X 0 0 [(b, .inr (0, [.null, .int (iI 0), .int (iI 0), .int (iI 0), .long (jL 0)]))] 0 [(0, .ref b)] []
  refine k_aload_n C 0 rfl dX0_init_0 rfl ?_
  refine k_objInit C 1 2 3 rfl rfl rfl (by decide) (Nat.le_of_ble_eq_true rfl) dX0_init_1 ?_
  refine k_aload_n C 0 rfl dX0_init_4 rfl ?_
  refine k_new C (Cn := RX3) (T := TX3) (N := 5) (ci := 3) in_X0_init_X3 tyX3 tyX3_ok 4 5 6 rfl rfl rfl rfl [.null, .null, .null, .int (iI 0), .int (iI 0)] (fun jj hj => by rcases (show jj = 0 ∨ jj = 1 ∨ jj = 2 ∨ jj = 3 ∨ jj = 4 by omega) with rfl | rfl | rfl | rfl | rfl <;> rfl) (Nat.le_of_ble_eq_true rfl) (Nat.le_of_ble_eq_true rfl) dX0_init_5 (fun q5 => ?_)
  refine k_eq (ws2 := [(b, .inr (0, [.null, .int (iI 0), .int (iI 0), .int (iI 0), .long (jL 0)])), (q5, .inr (3, [.null, .null, .null, .int (iI 0), .int (iI 0)]))]) (st2 := [.ref q5, .ref b]) rfl rfl rfl rfl ?_
  refine k_wide (k2 := 1) (j2 := 5) (Nat.le_refl _) (Nat.le_refl _) ?_
  refine k_dup C dX0_init_8 rfl ?_
  refine k_callIN C (y := yX3_init) [] 0 rfl (c_X3_init (x_l X) (x_G X) q5 ) gX0_init_X3_init_n11 rfl 6 1 8 rfl rfl rfl rfl ⟨by decide +kernel, by decide +kernel, by decide +kernel⟩ ⟨by decide, by decide⟩ [1] (by decide) (wc := [(q5, .inr (3, [.null, .null, .null, .int (iI 0), .int (iI 0)]))]) rfl [.ref q5, .ref b] rfl (Nat.le_of_ble_eq_true rfl) ⟨Nat.le_of_ble_eq_true rfl, Nat.le_of_ble_eq_true rfl⟩ dX0_init_9 (fun u9 => [(b, .inr (0, [.null, .int (iI 0), .int (iI 0), .int (iI 0), .long (jL 0)])), (q5, .inr (3, [.ref u9.1, .ref u9.2.1, .ref u9.2.2, .int (iI 0), .int (iI 0)])), (u9.1, .inl (g_I (x_G X), 631, .inl (aI (fun _ => 0)))), (u9.2.1, .inl (g_I (x_G X), 2524, .inl (aI (fun _ => 0)))), (u9.2.2, .inl (g_J (x_G X), 631, .inr (.inl (aL (fun _ => 0)))))]) (⟨[0], [0, 1, 2, 3, 4], [(b, .inr (0, [.null, .int (iI 0), .int (iI 0), .int (iI 0), .long (jL 0)]))], rfl, by decide, by decide, by decide, fun _ => rfl⟩) 4 3791 ⟨rfl, rfl⟩ (fun u9 hu9 => ?_)
  refine k_putF C (Cn := RX0) (T := TX0) (N := 5) (ci := 0) (ref := "StruckCounts$Board") in_X0_init_X0 tyX0 tyX0_ok nmX0 0 rfl rfl 0 (by decide) 7 rfl rfl rfl hnm rfl (v := .ref q5) (rfl) (rfl) (Nat.le_of_ble_eq_true rfl) [(b, .inr (0, [.ref q5, .int (iI 0), .int (iI 0), .int (iI 0), .long (jL 0)])), (q5, .inr (3, [.ref u9.1, .ref u9.2.1, .ref u9.2.2, .int (iI 0), .int (iI 0)])), (u9.1, .inl (g_I (x_G X), 631, .inl (aI (fun _ => 0)))), (u9.2.1, .inl (g_I (x_G X), 2524, .inl (aI (fun _ => 0)))), (u9.2.2, .inl (g_J (x_G X), 631, .inr (.inl (aL (fun _ => 0)))))] rfl dX0_init_12 ?_
  refine k_aload_n C 0 rfl dX0_init_15 rfl ?_
  refine k_bipush C dX0_init_16 (by decide) ?_
  refine k_callV C (y := yX0_begin) [.int (iI 100)] 1 rfl (c_X0_begin (x_l X) (x_G X) b q5 0 0 0 0 100 ) gX0_init_X0_begin rfl ⟨rfl, by decide +kernel, by decide +kernel, by decide +kernel⟩ ⟨by decide, by decide⟩ 0 (fs := [.ref q5, .int (iI 0), .int (iI 0), .int (iI 0), .long (jL 0)]) rfl rfl rfl [0] (by decide) (wc := [(b, .inr (0, [.ref q5, .int (iI 0), .int (iI 0), .int (iI 0), .long (jL 0)]))]) rfl [] rfl (Nat.le_of_ble_eq_true rfl) ⟨Nat.le_of_ble_eq_true rfl, Nat.le_of_ble_eq_true rfl⟩ dX0_init_18 (fun u18 => [(b, .inr (0, [.ref q5, .int (iI (-1)), .int (iI 100), .int (iI 0), .long (jL 0)])), (q5, .inr (3, [.ref u9.1, .ref u9.2.1, .ref u9.2.2, .int (iI 0), .int (iI 0)])), (u9.1, .inl (g_I (x_G X), 631, .inl (aI (fun _ => 0)))), (u9.2.1, .inl (g_I (x_G X), 2524, .inl (aI (fun _ => 0)))), (u9.2.2, .inl (g_J (x_G X), 631, .inr (.inl (aL (fun _ => 0)))))]) (Or.inr ⟨[1, 2, 3, 4], [4, 0, 1, 2, 3], [(q5, .inr (3, [.ref u9.1, .ref u9.2.1, .ref u9.2.2, .int (iI 0), .int (iI 0)])), (u9.1, .inl (g_I (x_G X), 631, .inl (aI (fun _ => 0)))), (u9.2.1, .inl (g_I (x_G X), 2524, .inl (aI (fun _ => 0)))), (u9.2.2, .inl (g_J (x_G X), 631, .inr (.inl (aL (fun _ => 0)))))], rfl, by decide, by decide, by decide, fun _ => rfl⟩) (fun u18 => []) (fun _ => rfl) 4 3791 ⟨rfl, rfl⟩ (fun u18 hu18 => ?_)
  exact k_vret C hR (u := (q5, u9.1, u9.2.1, u9.2.2)) rfl (by (try dsimp only) <;> exact (trivial)) rfl (Nat.le_of_ble_eq_true rfl) (Nat.le_of_ble_eq_true rfl) dX0_init_21
theorem in_X1_init_X1 : ∀ w ∈ wsX10, w ∈ wsX1_init := by decide +kernel
set_option maxHeartbeats 4000000 in
set_option maxRecDepth 100000 in
theorem c_X1_init (l : Launch) (G : KG) (pr : Nat)  : Ct l G yX1_init wsX1_init (rmD 1 1 782) [.ref pr] [(pr, .inr (1, [.null]))] (fun u : Nat × (Nat → Int) => RowOK u.2) (fun u : Nat × (Nat → Int) => none) (fun u : Nat × (Nat → Int) => [(pr, .inr (1, [.ref u.1])), (u.1, .inl (g_J G, 782, .inr (.inl (aL u.2))))]) := by
  refine Ct.of (cc := cX1_init) (maxL := 6) (ret := none) (by decide +kernel) rfl (Nat.le_of_ble_eq_true rfl) ?_
  intro X C hG hL hnm hR
  subst hG
  subst hL
  have C : Cx X cX1_init RX1 wsX1_init none 6 (rmD 1 1 782) := C
  show K_ X 0 0 [(pr, .inr (1, [.null]))] 0 [(0, .ref pr)] []
  refine k_aload_n C 0 rfl dX1_init_0 rfl ?_
  refine k_objInit C 1 2 3 rfl rfl rfl (by decide) (Nat.le_of_ble_eq_true rfl) dX1_init_1 ?_
  refine k_aload_n C 0 rfl dX1_init_4 rfl ?_
  refine k_sipush C dX1_init_5 (by decide) ?_
  refine k_newJ C 782 rfl (by decide) 4 rfl (Nat.le_of_ble_eq_true rfl) (Nat.le_of_ble_eq_true rfl) dX1_init_8 (fun q8 => ?_)
  refine k_eq (ws2 := [(pr, .inr (1, [.null])), (q8, .inl (g_J (x_G X), 782, .inr (.inl (aL (fun _ => 0)))))]) (st2 := [.ref q8, .ref pr]) rfl rfl rfl rfl ?_
  refine k_wide (k2 := 1) (j2 := 782) (Nat.le_refl _) (Nat.le_refl _) ?_
  refine k_putF C (Cn := RX1) (T := TX1) (N := 1) (ci := 1) (ref := "StruckCounts$Primes") in_X1_init_X1 tyX1 tyX1_ok nmX1 0 rfl rfl 0 (by decide) 5 rfl rfl rfl hnm rfl (v := .ref q8) (rfl) (rfl) (Nat.le_of_ble_eq_true rfl) [(pr, .inr (1, [.ref q8])), (q8, .inl (g_J (x_G X), 782, .inr (.inl (aL (fun _ => 0)))))] rfl dX1_init_10 ?_
  refine k_iconst C dX1_init_13 ?_
  refine k_istore_n C (lo' := [(1, .int (iI 0)), (0, .ref pr)]) dX1_init_14 rfl (by decide) rfl ?_
  have L15 : ∀ (nf : Nat) (i : Int) (f1 : Nat → Int), (0 ≤ i ∧ i ≤ 782 ∧ ∀ q, q < i.toNat → f1 q = 18446744073709551615) → (782 - i).toNat < nf → K_ X 1 782 [(pr, .inr (1, [.ref q8])), (q8, .inl (g_J (x_G X), 782, .inr (.inl (aL f1))))] 15 [(1, .int (iI i)), (0, .ref pr)] [] := by
    intro nf
    induction nf with
    | zero => intro i f1 hI hm; exact absurd hm (Nat.not_lt_zero _)
    | succ nf ih15 =>
      intro i f1 hI15 hm15
      obtain ⟨i1, i2, i3⟩ := hI15
      refine k_iload_n C 0 rfl dX1_init_15 rfl ?_
      refine k_sipush C dX1_init_16 (by decide) ?_
      refine k_icmp_ge C 37 (⟨by omega, by omega⟩) (⟨by omega, by omega⟩) dX1_init_19 (by decide) (fun c19 => ?_) (fun c19 => ?_)
      · skip
        refine k_aload_n C 1 rfl dX1_init_37 rfl ?_
        refine k_get C (Cn := RX1) (T := TX1) (N := 1) (ci := 1) (ref := "StruckCounts$Primes") in_X1_init_X1 0 rfl rfl 0 (by decide) 5 rfl rfl (v := .ref q8) rfl dX1_init_38 ?_
        refine k_iconst C dX1_init_41 ?_
        refine k_dup2 C dX1_init_42 rfl rfl ?_
        refine k_lald C (f := f1) 1 rfl (⟨by omega, by omega⟩) (by decide) dX1_init_43 ?_
        refine k_nmL (fun v43 e43 => ?_)
        have h43 := i3 0 (by omega)
        refine k_ldc2 C 18446744073709551614 7 rfl (by decide) dX1_init_44 ?_
        refine k_land C 18446744073709551614 (by rw [e43, show f1 (0 : Int).toNat = 18446744073709551615 from h43]; decide) dX1_init_47 ?_
        refine k_last C (f := f1) 1 rfl (⟨by omega, by omega⟩) (by decide) (fun gg => [(pr, .inr (1, [.ref q8])), (q8, .inl (g_J (x_G X), 782, .inr (.inl (aL gg))))]) (fun _ => rfl) dX1_init_48 (fun g48 e48 => ?_)
        have hC0 : RowC (Cs 0) g48 := row_start e48 rfl i3 (by omega)
        refine k_getsN C (ref := "StruckCounts") (nm := "SMALL_PRIMES") C.S.1.1 8 rfl rfl dX1_init_49 ?_
        refine k_astore_n C (lo' := [(1, .ref (g_tp (x_G X))), (0, .ref pr)]) dX1_init_52 rfl (by decide) rfl ?_
        refine k_aload_n C 0 rfl dX1_init_53 rfl ?_
        refine k_tlen C C.S.1.2 dX1_init_54 ?_
        refine k_eq (st2 := [.int (iI 65)]) rfl rfl rfl rfl ?_
        refine k_istore_n C (lo' := [(2, .int (iI 65)), (1, .ref (g_tp (x_G X))), (0, .ref pr)]) dX1_init_55 rfl (by decide) rfl ?_
        refine k_iconst C dX1_init_56 ?_
        refine k_istore_n C (lo' := [(3, .int (iI 0)), (2, .int (iI 65)), (1, .ref (g_tp (x_G X))), (0, .ref pr)]) dX1_init_57 rfl (by decide) rfl ?_
        have L58 : ∀ (nf : Nat) (i : Int) (f2 : Nat → Int), (0 ≤ i ∧ i ≤ 65 ∧ RowC (Cs i.toNat) f2) → (65 - i).toNat < nf → K_ X 1 782 [(pr, .inr (1, [.ref q8])), (q8, .inl (g_J (x_G X), 782, .inr (.inl (aL f2))))] 58 [(3, .int (iI i)), (2, .int (iI 65)), (1, .ref (g_tp (x_G X))), (0, .ref pr)] [] := by
          intro nf
          induction nf with
          | zero => intro i f2 hI hm; exact absurd hm (Nat.not_lt_zero _)
          | succ nf ih58 =>
            intro i f2 hI58 hm58
            obtain ⟨j1, j2, j3⟩ := hI58
            refine k_iload_n C 0 rfl dX1_init_58 rfl ?_
            refine k_iload_n C 1 rfl dX1_init_59 rfl ?_
            refine k_icmp_ge C 130 (⟨by omega, by omega⟩) (⟨by omega, by omega⟩) dX1_init_60 (by decide) (fun c60 => ?_) (fun c60 => ?_)
            · skip
              exact k_vret C hR (u := (q8, f2)) rfl (by (try dsimp only) <;> exact (RowC_row (by rw [show i.toNat = 65 by omega] at j3; exact j3))) rfl (Nat.le_of_ble_eq_true rfl) (Nat.le_of_ble_eq_true rfl) dX1_init_130
            · skip
              refine k_aload_n C 2 rfl dX1_init_63 rfl ?_
              refine k_iload_n C 0 rfl dX1_init_64 rfl ?_
              refine k_ti C C.S.1.2 (⟨by omega, by omega⟩) (by decide) dX1_init_65 ?_
              refine k_nmI (fun v65 e65 => ?_)
              have hj : i.toNat < 65 := by omega
              have hp : v65 = (sp i.toNat : Int) := by rw [e65]; exact spA_sp hj
              have hp2 := sp_ge2 hj
              have hp3 := sp_le hj
              have hmm := mul_rng (a := v65) (b := v65) (A := 313) (B := 313) (by omega) (by omega) (by omega) (by omega)
              refine k_istore C (lo' := [(4, .int (iI v65)), (3, .int (iI i)), (2, .int (iI 65)), (1, .ref (g_tp (x_G X))), (0, .ref pr)]) dX1_init_66 (by decide) rfl ?_
              refine k_iload C 0 rfl dX1_init_68 ?_
              refine k_iload C 0 rfl dX1_init_70 ?_
              refine k_imul C dX1_init_72 ?_
              refine k_nmI (fun v72 e72 => ?_)
              have h72 : v72 = ((sp i.toNat * sp i.toNat : Nat) : Int) := by rw [e72, hp, Int.natCast_mul]
              refine k_iconst C dX1_init_73 ?_
              refine k_idiv C ⟨by omega, by omega⟩ ⟨by omega, by omega⟩ dX1_init_74 ?_
              refine k_nmI (fun v74 e74 => ?_)
              have hv74 : v74.toNat = sp i.toNat * sp i.toNat / 2 := by omega
              refine k_istore C (lo' := [(5, .int (iI v74)), (4, .int (iI v65)), (3, .int (iI i)), (2, .int (iI 65)), (1, .ref (g_tp (x_G X))), (0, .ref pr)]) dX1_init_75 (by decide) rfl ?_
              have L77 : ∀ (nf : Nat) (cu : Int) (f3 : Nat → Int), (0 ≤ cu ∧ cu ≤ 60000 ∧ sp i.toNat * sp i.toNat / 2 ≤ cu.toNat ∧ (cu.toNat - sp i.toNat * sp i.toNat / 2) % sp i.toNat = 0 ∧ RowC (Ci i.toNat cu.toNat) f3 ∧ (2 < sp i.toNat ∨ cu.toNat = sp i.toNat * sp i.toNat / 2)) → (60000 - cu).toNat < nf → K_ X 1 782 [(pr, .inr (1, [.ref q8])), (q8, .inl (g_J (x_G X), 782, .inr (.inl (aL f3))))] 77 [(5, .int (iI cu)), (4, .int (iI v65)), (3, .int (iI i)), (2, .int (iI 65)), (1, .ref (g_tp (x_G X))), (0, .ref pr)] [] := by
                intro nf
                induction nf with
                | zero => intro cu f3 hI hm; exact absurd hm (Nat.not_lt_zero _)
                | succ nf ih77 =>
                  intro cu f3 hI77 hm77
                  obtain ⟨k1, k2, k3, k3b, k4, k5⟩ := hI77
                  refine k_iload C 1 rfl dX1_init_77 ?_
                  refine k_iconst C dX1_init_79 ?_
                  refine k_icmp_le C 124 (⟨by omega, by omega⟩) (⟨by omega, by omega⟩) dX1_init_80 (by decide) (fun c80 => ?_) (fun c80 => ?_)
                  · skip
                    obtain ⟨v124, e124⟩ : ∃ y : Int, y = i + 1 := ⟨_, rfl⟩
                    refine k_iinc C (lo' := [(3, .int (iI v124)), (5, .int (iI cu)), (4, .int (iI v65)), (2, .int (iI 65)), (1, .ref (g_tp (x_G X))), (0, .ref pr)]) 2 rfl dX1_init_124 (by decide) v124 e124 rfl ?_
                    refine k_goto C 58 dX1_init_127 (by decide) ?_
                    refine k_lo (lo' := [(3, .int (iI v124)), (2, .int (iI 65)), (1, .ref (g_tp (x_G X))), (0, .ref pr)]) [0, 3, 4, 5] rfl ?_
                    exact ih58 v124 f3 (⟨by omega, by omega, by
                rw [show v124.toNat = i.toNat + 1 by omega]
                first
                | exact RowC_cong k4 (fun e he => by rw [show cu.toNat = sp i.toNat * sp i.toNat / 2 by omega, Ci_0, Cs_2 (by omega)])
                | exact RowC_cong k4 (fun e he => Ci_end (by omega) (by omega))⟩) (by omega)
                  · skip
                    refine k_iload C 0 rfl dX1_init_83 ?_
                    refine k_ldc C 50048 8 rfl (by decide) dX1_init_85 ?_
                    refine k_icmp_ge C 124 (⟨by omega, by omega⟩) (⟨by omega, by omega⟩) dX1_init_87 (by decide) (fun c87 => ?_) (fun c87 => ?_)
                    · skip
                      obtain ⟨v124, e124⟩ : ∃ y : Int, y = i + 1 := ⟨_, rfl⟩
                      refine k_iinc C (lo' := [(3, .int (iI v124)), (5, .int (iI cu)), (4, .int (iI v65)), (2, .int (iI 65)), (1, .ref (g_tp (x_G X))), (0, .ref pr)]) 2 rfl dX1_init_124 (by decide) v124 e124 rfl ?_
                      refine k_goto C 58 dX1_init_127 (by decide) ?_
                      refine k_lo (lo' := [(3, .int (iI v124)), (2, .int (iI 65)), (1, .ref (g_tp (x_G X))), (0, .ref pr)]) [0, 3, 4, 5] rfl ?_
                      exact ih58 v124 f3 (⟨by omega, by omega, by
                rw [show v124.toNat = i.toNat + 1 by omega]
                first
                | exact RowC_cong k4 (fun e he => by rw [show cu.toNat = sp i.toNat * sp i.toNat / 2 by omega, Ci_0, Cs_2 (by omega)])
                | exact RowC_cong k4 (fun e he => Ci_end (by omega) (by omega))⟩) (by omega)
                    · skip
                      refine k_aload_n C 5 rfl dX1_init_90 rfl ?_
                      refine k_get C (Cn := RX1) (T := TX1) (N := 1) (ci := 1) (ref := "StruckCounts$Primes") in_X1_init_X1 0 rfl rfl 0 (by decide) 5 rfl rfl (v := .ref q8) rfl dX1_init_91 ?_
                      refine k_iload C 0 rfl dX1_init_94 ?_
                      refine k_bipush C dX1_init_96 (by decide) ?_
                      refine k_idiv C ⟨by omega, by omega⟩ ⟨by omega, by omega⟩ dX1_init_98 ?_
                      refine k_nmI (fun v98 e98 => ?_)
                      refine k_dup2 C dX1_init_99 rfl rfl ?_
                      refine k_lald C (f := f3) 1 rfl (⟨by omega, by omega⟩) (by decide) dX1_init_100 ?_
                      refine k_nmL (fun v100 e100 => ?_)
                      have h100 : v100 = (v100.toNat : Int) := by rw [e100, k4 v98.toNat (by omega)]; rfl
                      refine k_lconst C dX1_init_101 1 (by decide) ?_
                      refine k_iload C 0 rfl dX1_init_102 ?_
                      refine k_bipush C dX1_init_104 (by decide) ?_
                      refine k_irem C ⟨by omega, by omega⟩ ⟨by omega, by omega⟩ dX1_init_106 ?_
                      refine k_nmI (fun v106 e106 => ?_)
                      refine k_lshl C ((2 ^ v106.toNat : Nat) : Int) (by have := jl_shl 1 (k := v106) (by omega) (by omega); rw [Nat.one_mul] at this; exact this) dX1_init_107 ?_
                      refine k_nmL (fun v107 e107 => ?_)
                      refine k_ldc2 C 18446744073709551615 6 rfl (by decide) dX1_init_108 ?_
                      refine k_lxor C ((2 ^ v106.toNat ^^^ 18446744073709551615 : Nat) : Int) (by rw [e107]; exact jl_xor _ _) dX1_init_111 ?_
                      refine k_nmL (fun v111 e111 => ?_)
                      refine k_land C ((v100.toNat &&& (2 ^ v106.toNat ^^^ 18446744073709551615) : Nat) : Int) (by rw [e111]; exact (congrArg (fun z => jL z &&& jL ((2 ^ v106.toNat ^^^ 18446744073709551615 : Nat) : Int)) h100).trans (jl_and _ _)) dX1_init_112 ?_
                      refine k_nmL (fun v112 e112 => ?_)
                      refine k_last C (f := f3) 1 rfl (⟨by omega, by omega⟩) (by decide) (fun gg => [(pr, .inr (1, [.ref q8])), (q8, .inl (g_J (x_G X), 782, .inr (.inl (aL gg))))]) (fun _ => rfl) dX1_init_113 (fun g113 e113 => ?_)
                      refine k_iload C 0 rfl dX1_init_114 ?_
                      refine k_iload C 1 rfl dX1_init_116 ?_
                      refine k_iadd C dX1_init_118 ?_
                      refine k_nmI (fun v118 e118 => ?_)
                      refine k_istore C (lo' := [(5, .int (iI v118)), (4, .int (iI v65)), (3, .int (iI i)), (2, .int (iI 65)), (1, .ref (g_tp (x_G X))), (0, .ref pr)]) dX1_init_119 (by decide) rfl ?_
                      refine k_goto C 77 dX1_init_121 (by decide) ?_
                      exact ih77 v118 g113 (⟨by omega, by omega, by omega, by
                rw [show v118.toNat - sp i.toNat * sp i.toNat / 2 = (cu.toNat - sp i.toNat * sp i.toNat / 2) + sp i.toNat by omega, Nat.add_mod_right]; exact k3b, by
                rw [show v118.toNat = cu.toNat + sp i.toNat by omega]
                exact RowC_cong (RowC_clear k4 (e0 := cu.toNat) (by omega) (q := v98) (by omega) (x := v112) (by rw [e112, show v106.toNat = cu.toNat % 64 by omega, e100]) e113) (fun e he => (Ci_step (by omega) k3 k3b e).symm), Or.inl (by omega)⟩) (by omega)
              exact L77 _ v74 f2 (⟨by omega, by omega, by omega, by rw [show v74.toNat - sp i.toNat * sp i.toNat / 2 = 0 by omega]; exact Nat.zero_mod _, RowC_cong j3 (fun e he => by rw [hv74]; exact (Ci_0 _ e).symm), Or.inr hv74⟩) (Nat.lt_succ_self _)
        exact L58 _ 0 g48 (⟨by omega, by omega, hC0⟩) (Nat.lt_succ_self _)
      · skip
        refine k_aload_n C 1 rfl dX1_init_22 rfl ?_
        refine k_get C (Cn := RX1) (T := TX1) (N := 1) (ci := 1) (ref := "StruckCounts$Primes") in_X1_init_X1 0 rfl rfl 0 (by decide) 5 rfl rfl (v := .ref q8) rfl dX1_init_23 ?_
        refine k_iload_n C 0 rfl dX1_init_26 rfl ?_
        refine k_ldc2 C 18446744073709551615 6 rfl (by decide) dX1_init_27 ?_
        refine k_last C (f := f1) 1 rfl (⟨by omega, by omega⟩) (by decide) (fun gg => [(pr, .inr (1, [.ref q8])), (q8, .inl (g_J (x_G X), 782, .inr (.inl (aL gg))))]) (fun _ => rfl) dX1_init_30 (fun g30 e30 => ?_)
        obtain ⟨v31, e31⟩ : ∃ y : Int, y = i + 1 := ⟨_, rfl⟩
        refine k_iinc C (lo' := [(1, .int (iI v31)), (0, .ref pr)]) 0 rfl dX1_init_31 (by decide) v31 e31 rfl ?_
        refine k_goto C 15 dX1_init_34 (by decide) ?_
        exact ih15 v31 g30 (⟨by omega, by omega, fun q hq => by rw [e30]; by_cases e : q = i.toNat; (rw [e, upI_s]); (rw [upI_n e]; exact i3 q (by omega))⟩) (by omega)
  exact L15 _ 0 (fun _ => 0) (⟨by omega, by omega, fun q hq => absurd hq (Nat.not_lt_zero q)⟩) (Nat.lt_succ_self _)
end
section
theorem in_X2_init_X2 : ∀ w ∈ wsX20, w ∈ wsX2_init := by decide +kernel
set_option maxHeartbeats 4000000 in
set_option maxRecDepth 100000 in
theorem c_X2_init (l : Launch) (G : KG) (so : Nat)  : Ct l G yX2_init wsX2_init (rmD 1 3 48) [.ref so] [(so, .inr (2, [.null, .null, .null, .int (iI 0), .int (iI 0)]))] (fun u : Nat × Nat × Nat => True) (fun u : Nat × Nat × Nat => none) (fun u : Nat × Nat × Nat => [(so, .inr (2, [.ref u.1, .ref u.2.1, .ref u.2.2, .int (iI 0), .int (iI 0)])), (u.1, .inl (g_I G, 16, .inl (aI (fun _ => 0)))), (u.2.1, .inl (g_I G, 16, .inl (aI (fun _ => 0)))), (u.2.2, .inl (g_J G, 16, .inr (.inl (aL (fun _ => 0)))))]) := by
  refine Ct.of (cc := cX2_init) (maxL := 1) (ret := none) (by decide +kernel) rfl (Nat.le_of_ble_eq_true rfl) ?_
  intro X C hG hL hnm hR
  subst hG
  subst hL
  have C : Cx X cX2_init RX2 wsX2_init none 1 (rmD 1 3 48) := C
  show K_ X 0 0 [(so, .inr (2, [.null, .null, .null, .int (iI 0), .int (iI 0)]))] 0 [(0, .ref so)] []
  refine k_aload_n C 0 rfl dX2_init_0 rfl ?_
  refine k_objInit C 1 2 3 rfl rfl rfl (by decide) (Nat.le_of_ble_eq_true rfl) dX2_init_1 ?_
  refine k_aload_n C 0 rfl dX2_init_4 rfl ?_
  refine k_bipush C dX2_init_5 (by decide) ?_
  refine k_newI C 16 rfl (by decide) 4 rfl (Nat.le_of_ble_eq_true rfl) (Nat.le_of_ble_eq_true rfl) dX2_init_7 (fun q7 => ?_)
  refine k_eq (ws2 := [(so, .inr (2, [.null, .null, .null, .int (iI 0), .int (iI 0)])), (q7, .inl (g_I (x_G X), 16, .inl (aI (fun _ => 0))))]) (st2 := [.ref q7, .ref so]) rfl rfl rfl rfl ?_
  refine k_wide (k2 := 1) (j2 := 16) (Nat.le_refl _) (Nat.le_refl _) ?_
  refine k_putF C (Cn := RX2) (T := TX2) (N := 5) (ci := 2) (ref := "StruckCounts$Store") in_X2_init_X2 tyX2 tyX2_ok nmX2 0 rfl rfl 0 (by decide) 5 rfl rfl rfl hnm rfl (v := .ref q7) (rfl) (rfl) (Nat.le_of_ble_eq_true rfl) [(so, .inr (2, [.ref q7, .null, .null, .int (iI 0), .int (iI 0)])), (q7, .inl (g_I (x_G X), 16, .inl (aI (fun _ => 0))))] rfl dX2_init_9 ?_
  refine k_aload_n C 0 rfl dX2_init_12 rfl ?_
  refine k_bipush C dX2_init_13 (by decide) ?_
  refine k_newI C 16 rfl (by decide) 4 rfl (Nat.le_of_ble_eq_true rfl) (Nat.le_of_ble_eq_true rfl) dX2_init_15 (fun q15 => ?_)
  refine k_eq (ws2 := [(so, .inr (2, [.ref q7, .null, .null, .int (iI 0), .int (iI 0)])), (q7, .inl (g_I (x_G X), 16, .inl (aI (fun _ => 0)))), (q15, .inl (g_I (x_G X), 16, .inl (aI (fun _ => 0))))]) (st2 := [.ref q15, .ref so]) rfl rfl rfl rfl ?_
  refine k_wide (k2 := 2) (j2 := 32) (Nat.le_refl _) (Nat.le_refl _) ?_
  refine k_putF C (Cn := RX2) (T := TX2) (N := 5) (ci := 2) (ref := "StruckCounts$Store") in_X2_init_X2 tyX2 tyX2_ok nmX2 0 rfl rfl 1 (by decide) 6 rfl rfl rfl hnm rfl (v := .ref q15) (rfl) (rfl) (Nat.le_of_ble_eq_true rfl) [(so, .inr (2, [.ref q7, .ref q15, .null, .int (iI 0), .int (iI 0)])), (q7, .inl (g_I (x_G X), 16, .inl (aI (fun _ => 0)))), (q15, .inl (g_I (x_G X), 16, .inl (aI (fun _ => 0))))] rfl dX2_init_17 ?_
  refine k_aload_n C 0 rfl dX2_init_20 rfl ?_
  refine k_bipush C dX2_init_21 (by decide) ?_
  refine k_newJ C 16 rfl (by decide) 7 rfl (Nat.le_of_ble_eq_true rfl) (Nat.le_of_ble_eq_true rfl) dX2_init_23 (fun q23 => ?_)
  refine k_eq (ws2 := [(so, .inr (2, [.ref q7, .ref q15, .null, .int (iI 0), .int (iI 0)])), (q7, .inl (g_I (x_G X), 16, .inl (aI (fun _ => 0)))), (q15, .inl (g_I (x_G X), 16, .inl (aI (fun _ => 0)))), (q23, .inl (g_J (x_G X), 16, .inr (.inl (aL (fun _ => 0)))))]) (st2 := [.ref q23, .ref so]) rfl rfl rfl rfl ?_
  refine k_wide (k2 := 3) (j2 := 48) (Nat.le_refl _) (Nat.le_refl _) ?_
  refine k_putF C (Cn := RX2) (T := TX2) (N := 5) (ci := 2) (ref := "StruckCounts$Store") in_X2_init_X2 tyX2 tyX2_ok nmX2 0 rfl rfl 2 (by decide) 8 rfl rfl rfl hnm rfl (v := .ref q23) (rfl) (rfl) (Nat.le_of_ble_eq_true rfl) [(so, .inr (2, [.ref q7, .ref q15, .ref q23, .int (iI 0), .int (iI 0)])), (q7, .inl (g_I (x_G X), 16, .inl (aI (fun _ => 0)))), (q15, .inl (g_I (x_G X), 16, .inl (aI (fun _ => 0)))), (q23, .inl (g_J (x_G X), 16, .inr (.inl (aL (fun _ => 0)))))] rfl dX2_init_25 ?_
  exact k_vret C hR (u := (q7, q15, q23)) rfl (by (try dsimp only) <;> exact (trivial)) rfl (Nat.le_of_ble_eq_true rfl) (Nat.le_of_ble_eq_true rfl) dX2_init_28
theorem in_X2_put_X2 : ∀ w ∈ wsX20, w ∈ wsX2_put := by decide +kernel
theorem in_X2_put_X0 : ∀ w ∈ wsX00, w ∈ wsX2_put := by decide +kernel
set_option maxHeartbeats 4000000 in
set_option maxRecDepth 100000 in
theorem c_X2_put (l : Launch) (G : KG) (so bo ca ss : Nat) (nw rb : Int) (b t : Nat) (tl bd cm sk : Int) (p : Int) (fb fc fk : Nat → Int) (hp : 0 ≤ p ∧ p < 16) : Ct l G yX2_put wsX2_put (rmD 1 0 0) [.ref so, .int (iI p), .ref b] [(so, .inr (2, [.ref bo, .ref ca, .ref ss, .int (iI nw), .int (iI rb)])), (bo, .inl (g_I G, 16, .inl (aI fb))), (ca, .inl (g_I G, 16, .inl (aI fc))), (ss, .inl (g_J G, 16, .inr (.inl (aL fk)))), (b, .inr (0, [.ref t, .int (iI tl), .int (iI bd), .int (iI cm), .long (jL sk)]))] (fun u : (Nat → Int) × (Nat → Int) × (Nat → Int) => u.1 = upI fb p.toNat bd ∧ u.2.1 = upI fc p.toNat cm ∧ u.2.2 = upI fk p.toNat sk) (fun u : (Nat → Int) × (Nat → Int) × (Nat → Int) => none) (fun u : (Nat → Int) × (Nat → Int) × (Nat → Int) => [(so, .inr (2, [.ref bo, .ref ca, .ref ss, .int (iI nw), .int (iI rb)])), (bo, .inl (g_I G, 16, .inl (aI u.1))), (ca, .inl (g_I G, 16, .inl (aI u.2.1))), (ss, .inl (g_J G, 16, .inr (.inl (aL u.2.2)))), (b, .inr (0, [.ref t, .int (iI tl), .int (iI bd), .int (iI cm), .long (jL sk)]))]) := by
  refine Ct.of (cc := cX2_put) (maxL := 3) (ret := none) (by decide +kernel) rfl (Nat.le_of_ble_eq_true rfl) ?_
  intro X C hG hL hnm hR
  subst hG
  subst hL
  have C : Cx X cX2_put RX2 wsX2_put none 3 (rmD 1 0 0) := C
  show K_ X 0 0 [(so, .inr (2, [.ref bo, .ref ca, .ref ss, .int (iI nw), .int (iI rb)])), (bo, .inl (g_I (x_G X), 16, .inl (aI fb))), (ca, .inl (g_I (x_G X), 16, .inl (aI fc))), (ss, .inl (g_J (x_G X), 16, .inr (.inl (aL fk)))), (b, .inr (0, [.ref t, .int (iI tl), .int (iI bd), .int (iI cm), .long (jL sk)]))] 0 [(0, .ref so), (1, .int (iI p)), (2, .ref b)] []
  refine k_iload_n C 1 rfl dX2_put_0 rfl ?_
  refine k_iconst C dX2_put_1 ?_
  refine k_bipush C dX2_put_2 (by decide) ?_
  refine k_callSN C (y := yX6_outside) [.int (iI p), .int (iI 0), .int (iI 15)] 3 rfl (c_X6_outside (x_l X) (x_G X) p 0 15 (by omega) (by omega) (by omega)) gX2_put_X6_outside_n45 rfl 3 rfl 5 4 rfl rfl ⟨by decide +kernel, by decide +kernel, by decide +kernel⟩ ⟨by decide, by decide⟩ [] (by decide) (wc := []) rfl [] rfl (Nat.le_of_ble_eq_true rfl) ⟨Nat.le_of_ble_eq_true rfl, Nat.le_of_ble_eq_true rfl⟩ dX2_put_4 (fun _ => [(so, .inr (2, [.ref bo, .ref ca, .ref ss, .int (iI nw), .int (iI rb)])), (bo, .inl (g_I (x_G X), 16, .inl (aI fb))), (ca, .inl (g_I (x_G X), 16, .inl (aI fc))), (ss, .inl (g_J (x_G X), 16, .inr (.inl (aL fk)))), (b, .inr (0, [.ref t, .int (iI tl), .int (iI bd), .int (iI cm), .long (jL sk)]))]) (Or.inl (fun _ => ⟨rfl, rfl⟩)) (fun u4 => [.int (iI u4)]) (fun _ => rfl) 0 0 ⟨rfl, rfl⟩ (fun u4 hu4 => ?_)
  refine k_if_ne C 40 (⟨by omega, by omega⟩) dX2_put_7 (by decide) (fun c7 => ?_) (fun c7 => ?_)
  · exfalso; omega
  · skip
    have hu4 := bo_f hu4 c7
    refine k_aload_n C 0 rfl dX2_put_10 rfl ?_
    refine k_get C (Cn := RX2) (T := TX2) (N := 5) (ci := 2) (ref := "StruckCounts$Store") in_X2_put_X2 0 rfl rfl 0 (by decide) 1 rfl rfl (v := .ref bo) rfl dX2_put_11 ?_
    refine k_iload_n C 1 rfl dX2_put_14 rfl ?_
    refine k_aload_n C 2 rfl dX2_put_15 rfl ?_
    refine k_getN C (Cn := RX0) (T := TX0) (N := 5) (ci := 0) (ref := "StruckCounts$Board") in_X2_put_X0 4 rfl rfl 2 (by decide) 2 rfl rfl (v := .int (iI bd)) rfl dX2_put_16 ?_
    refine k_iast C (f := fb) 1 rfl (⟨by omega, by omega⟩) (by decide) (fun gg => [(so, .inr (2, [.ref bo, .ref ca, .ref ss, .int (iI nw), .int (iI rb)])), (bo, .inl (g_I (x_G X), 16, .inl (aI gg))), (ca, .inl (g_I (x_G X), 16, .inl (aI fc))), (ss, .inl (g_J (x_G X), 16, .inr (.inl (aL fk)))), (b, .inr (0, [.ref t, .int (iI tl), .int (iI bd), .int (iI cm), .long (jL sk)]))]) (fun _ => rfl) dX2_put_19 (fun g19 e19 => ?_)
    refine k_aload_n C 0 rfl dX2_put_20 rfl ?_
    refine k_get C (Cn := RX2) (T := TX2) (N := 5) (ci := 2) (ref := "StruckCounts$Store") in_X2_put_X2 0 rfl rfl 1 (by decide) 2 rfl rfl (v := .ref ca) rfl dX2_put_21 ?_
    refine k_iload_n C 1 rfl dX2_put_24 rfl ?_
    refine k_aload_n C 2 rfl dX2_put_25 rfl ?_
    refine k_getN C (Cn := RX0) (T := TX0) (N := 5) (ci := 0) (ref := "StruckCounts$Board") in_X2_put_X0 4 rfl rfl 3 (by decide) 4 rfl rfl (v := .int (iI cm)) rfl dX2_put_26 ?_
    refine k_iast C (f := fc) 2 rfl (⟨by omega, by omega⟩) (by decide) (fun gg => [(so, .inr (2, [.ref bo, .ref ca, .ref ss, .int (iI nw), .int (iI rb)])), (bo, .inl (g_I (x_G X), 16, .inl (aI g19))), (ca, .inl (g_I (x_G X), 16, .inl (aI gg))), (ss, .inl (g_J (x_G X), 16, .inr (.inl (aL fk)))), (b, .inr (0, [.ref t, .int (iI tl), .int (iI bd), .int (iI cm), .long (jL sk)]))]) (fun _ => rfl) dX2_put_29 (fun g29 e29 => ?_)
    refine k_aload_n C 0 rfl dX2_put_30 rfl ?_
    refine k_get C (Cn := RX2) (T := TX2) (N := 5) (ci := 2) (ref := "StruckCounts$Store") in_X2_put_X2 0 rfl rfl 2 (by decide) 3 rfl rfl (v := .ref ss) rfl dX2_put_31 ?_
    refine k_iload_n C 1 rfl dX2_put_34 rfl ?_
    refine k_aload_n C 2 rfl dX2_put_35 rfl ?_
    refine k_getN C (Cn := RX0) (T := TX0) (N := 5) (ci := 0) (ref := "StruckCounts$Board") in_X2_put_X0 4 rfl rfl 4 (by decide) 6 rfl rfl (v := .long (jL sk)) rfl dX2_put_36 ?_
    refine k_last C (f := fk) 3 rfl (⟨by omega, by omega⟩) (by decide) (fun gg => [(so, .inr (2, [.ref bo, .ref ca, .ref ss, .int (iI nw), .int (iI rb)])), (bo, .inl (g_I (x_G X), 16, .inl (aI g19))), (ca, .inl (g_I (x_G X), 16, .inl (aI g29))), (ss, .inl (g_J (x_G X), 16, .inr (.inl (aL gg)))), (b, .inr (0, [.ref t, .int (iI tl), .int (iI bd), .int (iI cm), .long (jL sk)]))]) (fun _ => rfl) dX2_put_39 (fun g39 e39 => ?_)
    exact k_vret C hR (u := (g19, g29, g39)) rfl (by (try dsimp only) <;> exact (⟨by assumption, by assumption, by assumption⟩)) rfl (Nat.le_of_ble_eq_true rfl) (Nat.le_of_ble_eq_true rfl) dX2_put_40
theorem in_X2_show_X2 : ∀ w ∈ wsX20, w ∈ wsX2_show := by decide +kernel
set_option maxHeartbeats 4000000 in
set_option maxRecDepth 100000 in
theorem c_X2_show (l : Launch) (G : KG) (so bo ca ss : Nat) (nw rb : Int) (b t : Nat) (tl bd cm sk : Int) (p : Int) (fb fc fk : Nat → Int) (hp : 0 ≤ p ∧ p < 16) : Ct l G yX2_show wsX2_show (rmD 1 0 0) [.ref so, .int (iI p), .ref b] [(so, .inr (2, [.ref bo, .ref ca, .ref ss, .int (iI nw), .int (iI rb)])), (bo, .inl (g_I G, 16, .inl (aI fb))), (ca, .inl (g_I G, 16, .inl (aI fc))), (ss, .inl (g_J G, 16, .inr (.inl (aL fk)))), (b, .inr (0, [.ref t, .int (iI tl), .int (iI bd), .int (iI cm), .long (jL sk)]))] (fun u : Int × Int × Int => u.1 = fb p.toNat ∧ u.2.1 = fc p.toNat ∧ u.2.2 = fk p.toNat) (fun u : Int × Int × Int => none) (fun u : Int × Int × Int => [(so, .inr (2, [.ref bo, .ref ca, .ref ss, .int (iI nw), .int (iI rb)])), (bo, .inl (g_I G, 16, .inl (aI fb))), (ca, .inl (g_I G, 16, .inl (aI fc))), (ss, .inl (g_J G, 16, .inr (.inl (aL fk)))), (b, .inr (0, [.ref t, .int (iI (-1)), .int (iI u.1), .int (iI u.2.1), .long (jL u.2.2)]))]) := by
  refine Ct.of (cc := cX2_show) (maxL := 3) (ret := none) (by decide +kernel) rfl (Nat.le_of_ble_eq_true rfl) ?_
  intro X C hG hL hnm hR
  subst hG
  subst hL
  have C : Cx X cX2_show RX2 wsX2_show none 3 (rmD 1 0 0) := C
  show K_ X 0 0 [(so, .inr (2, [.ref bo, .ref ca, .ref ss, .int (iI nw), .int (iI rb)])), (bo, .inl (g_I (x_G X), 16, .inl (aI fb))), (ca, .inl (g_I (x_G X), 16, .inl (aI fc))), (ss, .inl (g_J (x_G X), 16, .inr (.inl (aL fk)))), (b, .inr (0, [.ref t, .int (iI tl), .int (iI bd), .int (iI cm), .long (jL sk)]))] 0 [(0, .ref so), (1, .int (iI p)), (2, .ref b)] []
  refine k_iload_n C 1 rfl dX2_show_0 rfl ?_
  refine k_iconst C dX2_show_1 ?_
  refine k_bipush C dX2_show_2 (by decide) ?_
  refine k_callSN C (y := yX6_outside) [.int (iI p), .int (iI 0), .int (iI 15)] 3 rfl (c_X6_outside (x_l X) (x_G X) p 0 15 (by omega) (by omega) (by omega)) gX2_show_X6_outside_n45 rfl 3 rfl 5 4 rfl rfl ⟨by decide +kernel, by decide +kernel, by decide +kernel⟩ ⟨by decide, by decide⟩ [] (by decide) (wc := []) rfl [] rfl (Nat.le_of_ble_eq_true rfl) ⟨Nat.le_of_ble_eq_true rfl, Nat.le_of_ble_eq_true rfl⟩ dX2_show_4 (fun _ => [(so, .inr (2, [.ref bo, .ref ca, .ref ss, .int (iI nw), .int (iI rb)])), (bo, .inl (g_I (x_G X), 16, .inl (aI fb))), (ca, .inl (g_I (x_G X), 16, .inl (aI fc))), (ss, .inl (g_J (x_G X), 16, .inr (.inl (aL fk)))), (b, .inr (0, [.ref t, .int (iI tl), .int (iI bd), .int (iI cm), .long (jL sk)]))]) (Or.inl (fun _ => ⟨rfl, rfl⟩)) (fun u4 => [.int (iI u4)]) (fun _ => rfl) 0 0 ⟨rfl, rfl⟩ (fun u4 hu4 => ?_)
  refine k_if_ne C 32 (⟨by omega, by omega⟩) dX2_show_7 (by decide) (fun c7 => ?_) (fun c7 => ?_)
  · exfalso; omega
  · skip
    have hu4 := bo_f hu4 c7
    refine k_aload_n C 2 rfl dX2_show_10 rfl ?_
    refine k_aload_n C 0 rfl dX2_show_11 rfl ?_
    refine k_get C (Cn := RX2) (T := TX2) (N := 5) (ci := 2) (ref := "StruckCounts$Store") in_X2_show_X2 0 rfl rfl 0 (by decide) 1 rfl rfl (v := .ref bo) rfl dX2_show_12 ?_
    refine k_iload_n C 1 rfl dX2_show_15 rfl ?_
    refine k_iald C (f := fb) 1 rfl (⟨by omega, by omega⟩) (by decide) dX2_show_16 ?_
    refine k_nmI (fun v16 e16 => ?_)
    refine k_aload_n C 0 rfl dX2_show_17 rfl ?_
    refine k_get C (Cn := RX2) (T := TX2) (N := 5) (ci := 2) (ref := "StruckCounts$Store") in_X2_show_X2 0 rfl rfl 1 (by decide) 2 rfl rfl (v := .ref ca) rfl dX2_show_18 ?_
    refine k_iload_n C 1 rfl dX2_show_21 rfl ?_
    refine k_iald C (f := fc) 2 rfl (⟨by omega, by omega⟩) (by decide) dX2_show_22 ?_
    refine k_nmI (fun v22 e22 => ?_)
    refine k_aload_n C 0 rfl dX2_show_23 rfl ?_
    refine k_get C (Cn := RX2) (T := TX2) (N := 5) (ci := 2) (ref := "StruckCounts$Store") in_X2_show_X2 0 rfl rfl 2 (by decide) 3 rfl rfl (v := .ref ss) rfl dX2_show_24 ?_
    refine k_iload_n C 1 rfl dX2_show_27 rfl ?_
    refine k_lald C (f := fk) 3 rfl (⟨by omega, by omega⟩) (by decide) dX2_show_28 ?_
    refine k_nmL (fun v28 e28 => ?_)
    refine k_callV C (y := yX0_show) [.int (iI v16), .int (iI v22), .long (jL v28)] 3 rfl (c_X0_show (x_l X) (x_G X) b t tl bd cm sk v16 v22 v28 ) gX2_show_X0_show rfl ⟨rfl, by decide +kernel, by decide +kernel, by decide +kernel⟩ ⟨by decide, by decide⟩ 4 (fs := [.ref t, .int (iI tl), .int (iI bd), .int (iI cm), .long (jL sk)]) rfl rfl rfl [4] (by decide) (wc := [(b, .inr (0, [.ref t, .int (iI tl), .int (iI bd), .int (iI cm), .long (jL sk)]))]) rfl [] rfl (Nat.le_of_ble_eq_true rfl) ⟨Nat.le_of_ble_eq_true rfl, Nat.le_of_ble_eq_true rfl⟩ dX2_show_29 (fun u29 => [(so, .inr (2, [.ref bo, .ref ca, .ref ss, .int (iI nw), .int (iI rb)])), (bo, .inl (g_I (x_G X), 16, .inl (aI fb))), (ca, .inl (g_I (x_G X), 16, .inl (aI fc))), (ss, .inl (g_J (x_G X), 16, .inr (.inl (aL fk)))), (b, .inr (0, [.ref t, .int (iI (-1)), .int (iI v16), .int (iI v22), .long (jL v28)]))]) (Or.inr ⟨[0, 1, 2, 3], [0, 1, 2, 3, 4], [(so, .inr (2, [.ref bo, .ref ca, .ref ss, .int (iI nw), .int (iI rb)])), (bo, .inl (g_I (x_G X), 16, .inl (aI fb))), (ca, .inl (g_I (x_G X), 16, .inl (aI fc))), (ss, .inl (g_J (x_G X), 16, .inr (.inl (aL fk))))], rfl, by decide, by decide, by decide, fun _ => rfl⟩) (fun u29 => []) (fun _ => rfl) 0 0 ⟨rfl, rfl⟩ (fun u29 hu29 => ?_)
    exact k_vret C hR (u := (v16, v22, v28)) rfl (by (try dsimp only) <;> exact (⟨by assumption, by assumption, by assumption⟩)) rfl (Nat.le_of_ble_eq_true rfl) (Nat.le_of_ble_eq_true rfl) dX2_show_32
theorem in_X2_remember_X2 : ∀ w ∈ wsX20, w ∈ wsX2_remember := by decide +kernel
set_option maxHeartbeats 4000000 in
set_option maxRecDepth 100000 in
theorem c_X2_remember (l : Launch) (G : KG) (so bo ca ss : Nat) (nw rb : Int) (b t : Nat) (tl bd cm sk : Int) (fb fc fk : Nat → Int) (hn : 0 ≤ nw ∧ nw < 14) (hr : 0 ≤ rb ∧ rb ≤ 14) : Ct l G yX2_remember wsX2_remember (rmD 2 0 0) [.ref so, .ref b] [(so, .inr (2, [.ref bo, .ref ca, .ref ss, .int (iI nw), .int (iI rb)])), (bo, .inl (g_I G, 16, .inl (aI fb))), (ca, .inl (g_I G, 16, .inl (aI fc))), (ss, .inl (g_J G, 16, .inr (.inl (aL fk)))), (b, .inr (0, [.ref t, .int (iI tl), .int (iI bd), .int (iI cm), .long (jL sk)]))] (fun u : Int × Int × (Nat → Int) × (Nat → Int) × (Nat → Int) => u.1 = (nw + 1) % 14 ∧ (u.2.1 = if rb = 14 then 14 else rb + 1) ∧ u.2.2.1 = upI fb ((nw + 1) % 14).toNat bd ∧ u.2.2.2.1 = upI fc ((nw + 1) % 14).toNat cm ∧ u.2.2.2.2 = upI fk ((nw + 1) % 14).toNat sk) (fun u : Int × Int × (Nat → Int) × (Nat → Int) × (Nat → Int) => none) (fun u : Int × Int × (Nat → Int) × (Nat → Int) × (Nat → Int) => [(so, .inr (2, [.ref bo, .ref ca, .ref ss, .int (iI u.1), .int (iI u.2.1)])), (bo, .inl (g_I G, 16, .inl (aI u.2.2.1))), (ca, .inl (g_I G, 16, .inl (aI u.2.2.2.1))), (ss, .inl (g_J G, 16, .inr (.inl (aL u.2.2.2.2)))), (b, .inr (0, [.ref t, .int (iI tl), .int (iI bd), .int (iI cm), .long (jL sk)]))]) := by
  refine Ct.of (cc := cX2_remember) (maxL := 2) (ret := none) (by decide +kernel) rfl (Nat.le_of_ble_eq_true rfl) ?_
  intro X C hG hL hnm hR
  subst hG
  subst hL
  have C : Cx X cX2_remember RX2 wsX2_remember none 2 (rmD 2 0 0) := C
  show K_ X 0 0 [(so, .inr (2, [.ref bo, .ref ca, .ref ss, .int (iI nw), .int (iI rb)])), (bo, .inl (g_I (x_G X), 16, .inl (aI fb))), (ca, .inl (g_I (x_G X), 16, .inl (aI fc))), (ss, .inl (g_J (x_G X), 16, .inr (.inl (aL fk)))), (b, .inr (0, [.ref t, .int (iI tl), .int (iI bd), .int (iI cm), .long (jL sk)]))] 0 [(0, .ref so), (1, .ref b)] []
  refine k_aload_n C 0 rfl dX2_remember_0 rfl ?_
  refine k_aload_n C 0 rfl dX2_remember_1 rfl ?_
  refine k_get C (Cn := RX2) (T := TX2) (N := 5) (ci := 2) (ref := "StruckCounts$Store") in_X2_remember_X2 0 rfl rfl 3 (by decide) 1 rfl rfl (v := .int (iI nw)) rfl dX2_remember_2 ?_
  refine k_iconst C dX2_remember_5 ?_
  refine k_iadd C dX2_remember_6 ?_
  refine k_nmI (fun v6 e6 => ?_)
  refine k_bipush C dX2_remember_7 (by decide) ?_
  refine k_irem C ⟨by omega, by omega⟩ ⟨by omega, by omega⟩ dX2_remember_9 ?_
  refine k_nmI (fun v9 e9 => ?_)
  refine k_put C (Cn := RX2) (T := TX2) (N := 5) (ci := 2) (ref := "StruckCounts$Store") in_X2_remember_X2 tyX2 tyX2_ok nmX2 0 rfl rfl 3 (by decide) 1 rfl rfl rfl (v := .int (iI v9)) (rfl) (rfl) (Nat.le_of_ble_eq_true rfl) [(so, .inr (2, [.ref bo, .ref ca, .ref ss, .int (iI v9), .int (iI rb)])), (bo, .inl (g_I (x_G X), 16, .inl (aI fb))), (ca, .inl (g_I (x_G X), 16, .inl (aI fc))), (ss, .inl (g_J (x_G X), 16, .inr (.inl (aL fk)))), (b, .inr (0, [.ref t, .int (iI tl), .int (iI bd), .int (iI cm), .long (jL sk)]))] rfl dX2_remember_10 ?_
  refine k_aload_n C 0 rfl dX2_remember_13 rfl ?_
  refine k_aload_n C 0 rfl dX2_remember_14 rfl ?_
  refine k_get C (Cn := RX2) (T := TX2) (N := 5) (ci := 2) (ref := "StruckCounts$Store") in_X2_remember_X2 0 rfl rfl 3 (by decide) 1 rfl rfl (v := .int (iI v9)) rfl dX2_remember_15 ?_
  refine k_aload_n C 1 rfl dX2_remember_18 rfl ?_
  refine k_callV C (y := yX2_put) [.int (iI v9), .ref b] 2 rfl (c_X2_put (x_l X) (x_G X) so bo ca ss v9 rb b t tl bd cm sk v9 fb fc fk (by omega)) gX2_remember_X2_put rfl ⟨rfl, by decide +kernel, by decide +kernel, by decide +kernel⟩ ⟨by decide, by decide⟩ 0 (fs := [.ref bo, .ref ca, .ref ss, .int (iI v9), .int (iI rb)]) rfl rfl rfl [0, 1, 2, 3, 4] (by decide) (wc := [(so, .inr (2, [.ref bo, .ref ca, .ref ss, .int (iI v9), .int (iI rb)])), (bo, .inl (g_I (x_G X), 16, .inl (aI fb))), (ca, .inl (g_I (x_G X), 16, .inl (aI fc))), (ss, .inl (g_J (x_G X), 16, .inr (.inl (aL fk)))), (b, .inr (0, [.ref t, .int (iI tl), .int (iI bd), .int (iI cm), .long (jL sk)]))]) rfl [] rfl (Nat.le_of_ble_eq_true rfl) ⟨Nat.le_of_ble_eq_true rfl, Nat.le_of_ble_eq_true rfl⟩ dX2_remember_19 (fun u19 => [(so, .inr (2, [.ref bo, .ref ca, .ref ss, .int (iI v9), .int (iI rb)])), (bo, .inl (g_I (x_G X), 16, .inl (aI u19.1))), (ca, .inl (g_I (x_G X), 16, .inl (aI u19.2.1))), (ss, .inl (g_J (x_G X), 16, .inr (.inl (aL u19.2.2)))), (b, .inr (0, [.ref t, .int (iI tl), .int (iI bd), .int (iI cm), .long (jL sk)]))]) (Or.inr ⟨[], [0, 1, 2, 3, 4], [], rfl, by decide, by decide, by decide, fun _ => rfl⟩) (fun u19 => []) (fun _ => rfl) 0 0 ⟨rfl, rfl⟩ (fun u19 hu19 => ?_)
  refine k_aload_n C 0 rfl dX2_remember_22 rfl ?_
  refine k_aload_n C 0 rfl dX2_remember_23 rfl ?_
  refine k_get C (Cn := RX2) (T := TX2) (N := 5) (ci := 2) (ref := "StruckCounts$Store") in_X2_remember_X2 0 rfl rfl 4 (by decide) 2 rfl rfl (v := .int (iI rb)) rfl dX2_remember_24 ?_
  refine k_iconst C dX2_remember_27 ?_
  refine k_iadd C dX2_remember_28 ?_
  refine k_nmI (fun v28 e28 => ?_)
  refine k_bipush C dX2_remember_29 (by decide) ?_
  refine k_min C 3 4 5 6 (⟨by omega, by omega⟩) (⟨by omega, by omega⟩) rfl rfl rfl rfl (by decide) (Nat.le_of_ble_eq_true rfl) ⟨by decide, by decide⟩ dX2_remember_31 (fun v31 e31 => ?_)
  refine k_put C (Cn := RX2) (T := TX2) (N := 5) (ci := 2) (ref := "StruckCounts$Store") in_X2_remember_X2 tyX2 tyX2_ok nmX2 0 rfl rfl 4 (by decide) 2 rfl rfl rfl (v := .int (iI v31)) (rfl) (rfl) (Nat.le_of_ble_eq_true rfl) [(so, .inr (2, [.ref bo, .ref ca, .ref ss, .int (iI v9), .int (iI v31)])), (bo, .inl (g_I (x_G X), 16, .inl (aI u19.1))), (ca, .inl (g_I (x_G X), 16, .inl (aI u19.2.1))), (ss, .inl (g_J (x_G X), 16, .inr (.inl (aL u19.2.2)))), (b, .inr (0, [.ref t, .int (iI tl), .int (iI bd), .int (iI cm), .long (jL sk)]))] rfl dX2_remember_34 ?_
  exact k_vret C hR (u := (v9, v31, u19.1, u19.2.1, u19.2.2)) rfl (by (try dsimp only) <;> exact (by have e : v9 = (nw + 1) % 14 := (by omega); rw [← e]; exact ⟨rfl, by split <;> omega, hu19.1, hu19.2.1, hu19.2.2⟩)) rfl (Nat.le_of_ble_eq_true rfl) (Nat.le_of_ble_eq_true rfl) dX2_remember_37
theorem in_X2_takeBack_X2 : ∀ w ∈ wsX20, w ∈ wsX2_takeBack := by decide +kernel
set_option maxHeartbeats 4000000 in
set_option maxRecDepth 100000 in
theorem c_X2_takeBack (l : Launch) (G : KG) (so bo ca ss : Nat) (nw rb : Int) (b t : Nat) (tl bd cm sk : Int) (fb fc fk : Nat → Int) (hn : 0 ≤ nw ∧ nw < 14) (hr : 1 ≤ rb ∧ rb ≤ 14) : Ct l G yX2_takeBack wsX2_takeBack (rmD 2 0 0) [.ref so, .ref b] [(so, .inr (2, [.ref bo, .ref ca, .ref ss, .int (iI nw), .int (iI rb)])), (bo, .inl (g_I G, 16, .inl (aI fb))), (ca, .inl (g_I G, 16, .inl (aI fc))), (ss, .inl (g_J G, 16, .inr (.inl (aL fk)))), (b, .inr (0, [.ref t, .int (iI tl), .int (iI bd), .int (iI cm), .long (jL sk)]))] (fun u : Int × Int × Int × Int × Int => u.1 = (nw + 13) % 14 ∧ u.2.1 = rb - 1 ∧ u.2.2.1 = fb nw.toNat ∧ u.2.2.2.1 = fc nw.toNat ∧ u.2.2.2.2 = fk nw.toNat) (fun u : Int × Int × Int × Int × Int => none) (fun u : Int × Int × Int × Int × Int => [(so, .inr (2, [.ref bo, .ref ca, .ref ss, .int (iI u.1), .int (iI u.2.1)])), (bo, .inl (g_I G, 16, .inl (aI fb))), (ca, .inl (g_I G, 16, .inl (aI fc))), (ss, .inl (g_J G, 16, .inr (.inl (aL fk)))), (b, .inr (0, [.ref t, .int (iI (-1)), .int (iI u.2.2.1), .int (iI u.2.2.2.1), .long (jL u.2.2.2.2)]))]) := by
  refine Ct.of (cc := cX2_takeBack) (maxL := 2) (ret := none) (by decide +kernel) rfl (Nat.le_of_ble_eq_true rfl) ?_
  intro X C hG hL hnm hR
  subst hG
  subst hL
  have C : Cx X cX2_takeBack RX2 wsX2_takeBack none 2 (rmD 2 0 0) := C
  show K_ X 0 0 [(so, .inr (2, [.ref bo, .ref ca, .ref ss, .int (iI nw), .int (iI rb)])), (bo, .inl (g_I (x_G X), 16, .inl (aI fb))), (ca, .inl (g_I (x_G X), 16, .inl (aI fc))), (ss, .inl (g_J (x_G X), 16, .inr (.inl (aL fk)))), (b, .inr (0, [.ref t, .int (iI tl), .int (iI bd), .int (iI cm), .long (jL sk)]))] 0 [(0, .ref so), (1, .ref b)] []
  refine k_aload_n C 0 rfl dX2_takeBack_0 rfl ?_
  refine k_aload_n C 0 rfl dX2_takeBack_1 rfl ?_
  refine k_get C (Cn := RX2) (T := TX2) (N := 5) (ci := 2) (ref := "StruckCounts$Store") in_X2_takeBack_X2 0 rfl rfl 3 (by decide) 1 rfl rfl (v := .int (iI nw)) rfl dX2_takeBack_2 ?_
  refine k_aload_n C 1 rfl dX2_takeBack_5 rfl ?_
  refine k_callV C (y := yX2_show) [.int (iI nw), .ref b] 2 rfl (c_X2_show (x_l X) (x_G X) so bo ca ss nw rb b t tl bd cm sk nw fb fc fk (by omega)) gX2_takeBack_X2_show rfl ⟨rfl, by decide +kernel, by decide +kernel, by decide +kernel⟩ ⟨by decide, by decide⟩ 0 (fs := [.ref bo, .ref ca, .ref ss, .int (iI nw), .int (iI rb)]) rfl rfl rfl [0, 1, 2, 3, 4] (by decide) (wc := [(so, .inr (2, [.ref bo, .ref ca, .ref ss, .int (iI nw), .int (iI rb)])), (bo, .inl (g_I (x_G X), 16, .inl (aI fb))), (ca, .inl (g_I (x_G X), 16, .inl (aI fc))), (ss, .inl (g_J (x_G X), 16, .inr (.inl (aL fk)))), (b, .inr (0, [.ref t, .int (iI tl), .int (iI bd), .int (iI cm), .long (jL sk)]))]) rfl [] rfl (Nat.le_of_ble_eq_true rfl) ⟨Nat.le_of_ble_eq_true rfl, Nat.le_of_ble_eq_true rfl⟩ dX2_takeBack_6 (fun u6 => [(so, .inr (2, [.ref bo, .ref ca, .ref ss, .int (iI nw), .int (iI rb)])), (bo, .inl (g_I (x_G X), 16, .inl (aI fb))), (ca, .inl (g_I (x_G X), 16, .inl (aI fc))), (ss, .inl (g_J (x_G X), 16, .inr (.inl (aL fk)))), (b, .inr (0, [.ref t, .int (iI (-1)), .int (iI u6.1), .int (iI u6.2.1), .long (jL u6.2.2)]))]) (Or.inr ⟨[], [0, 1, 2, 3, 4], [], rfl, by decide, by decide, by decide, fun _ => rfl⟩) (fun u6 => []) (fun _ => rfl) 0 0 ⟨rfl, rfl⟩ (fun u6 hu6 => ?_)
  refine k_aload_n C 0 rfl dX2_takeBack_9 rfl ?_
  refine k_aload_n C 0 rfl dX2_takeBack_10 rfl ?_
  refine k_get C (Cn := RX2) (T := TX2) (N := 5) (ci := 2) (ref := "StruckCounts$Store") in_X2_takeBack_X2 0 rfl rfl 3 (by decide) 1 rfl rfl (v := .int (iI nw)) rfl dX2_takeBack_11 ?_
  refine k_bipush C dX2_takeBack_14 (by decide) ?_
  refine k_iadd C dX2_takeBack_16 ?_
  refine k_nmI (fun v16 e16 => ?_)
  refine k_iconst C dX2_takeBack_17 ?_
  refine k_isub C dX2_takeBack_18 ?_
  refine k_nmI (fun v18 e18 => ?_)
  refine k_bipush C dX2_takeBack_19 (by decide) ?_
  refine k_irem C ⟨by omega, by omega⟩ ⟨by omega, by omega⟩ dX2_takeBack_21 ?_
  refine k_nmI (fun v21 e21 => ?_)
  refine k_put C (Cn := RX2) (T := TX2) (N := 5) (ci := 2) (ref := "StruckCounts$Store") in_X2_takeBack_X2 tyX2 tyX2_ok nmX2 0 rfl rfl 3 (by decide) 1 rfl rfl rfl (v := .int (iI v21)) (rfl) (rfl) (Nat.le_of_ble_eq_true rfl) [(so, .inr (2, [.ref bo, .ref ca, .ref ss, .int (iI v21), .int (iI rb)])), (bo, .inl (g_I (x_G X), 16, .inl (aI fb))), (ca, .inl (g_I (x_G X), 16, .inl (aI fc))), (ss, .inl (g_J (x_G X), 16, .inr (.inl (aL fk)))), (b, .inr (0, [.ref t, .int (iI (-1)), .int (iI u6.1), .int (iI u6.2.1), .long (jL u6.2.2)]))] rfl dX2_takeBack_22 ?_
  refine k_aload_n C 0 rfl dX2_takeBack_25 rfl ?_
  refine k_aload_n C 0 rfl dX2_takeBack_26 rfl ?_
  refine k_get C (Cn := RX2) (T := TX2) (N := 5) (ci := 2) (ref := "StruckCounts$Store") in_X2_takeBack_X2 0 rfl rfl 4 (by decide) 2 rfl rfl (v := .int (iI rb)) rfl dX2_takeBack_27 ?_
  refine k_iconst C dX2_takeBack_30 ?_
  refine k_isub C dX2_takeBack_31 ?_
  refine k_nmI (fun v31 e31 => ?_)
  refine k_iconst C dX2_takeBack_32 ?_
  refine k_max C 3 4 5 6 (⟨by omega, by omega⟩) (⟨by omega, by omega⟩) rfl rfl rfl rfl (by decide) (Nat.le_of_ble_eq_true rfl) ⟨by decide, by decide⟩ dX2_takeBack_33 (fun v33 e33 => ?_)
  refine k_put C (Cn := RX2) (T := TX2) (N := 5) (ci := 2) (ref := "StruckCounts$Store") in_X2_takeBack_X2 tyX2 tyX2_ok nmX2 0 rfl rfl 4 (by decide) 2 rfl rfl rfl (v := .int (iI v33)) (rfl) (rfl) (Nat.le_of_ble_eq_true rfl) [(so, .inr (2, [.ref bo, .ref ca, .ref ss, .int (iI v21), .int (iI v33)])), (bo, .inl (g_I (x_G X), 16, .inl (aI fb))), (ca, .inl (g_I (x_G X), 16, .inl (aI fc))), (ss, .inl (g_J (x_G X), 16, .inr (.inl (aL fk)))), (b, .inr (0, [.ref t, .int (iI (-1)), .int (iI u6.1), .int (iI u6.2.1), .long (jL u6.2.2)]))] rfl dX2_takeBack_36 ?_
  exact k_vret C hR (u := (v21, v33, u6.1, u6.2.1, u6.2.2)) rfl (by (try dsimp only) <;> exact (⟨by omega, by omega, hu6.1, hu6.2.1, hu6.2.2⟩)) rfl (Nat.le_of_ble_eq_true rfl) (Nat.le_of_ble_eq_true rfl) dX2_takeBack_39
end
section
section KTW
variable {X : KX} {cc : ByteArray} {own : String} {Ts : List Cond} {ret : Option FieldType} {n : Nat} {rm : Room} {k j pc : Nat} {ws : va_W} {lo lo' : List (Nat × Value)} {st : List Value}
theorem k_throwW (C : Cx X cc own Ts ret n rm) {V : Type} {okx : V → Prop} {ex : V → String} {wx : V → va_W} (hT : Thr X okx ex wx) (htab : ∀ x ∈ (x_c X).exceptionTable.toList, False) (hl : (x_l X).stackTraces = false) (ho : own = "StruckCounts") {cls text : String} {ik is ic : Nat} (iS : Nat) (hS0 : exT[iS]? = some (is, text)) (iC : Nat) (hC0 : exC[iC]? = some cls)
    (iK iI0 : Nat) (h1 : Ts[iK]? = some (.classLink own ik cls)) (h2 : Ts[iI0]? = some (.initialized cls)) (hcls : Bundle.fit cls = true) (hnm : ∀ n ∈ exS, Bundle.fit n = true) (hg : ∀ w ∈ (vx_atS own ic cls exS).filter goodWord, w ∈ Ts) (hb : ∀ w ∈ (vx_atS own ic cls exS).filter (fun w => !goodWord w), w ∈ Cond.castable cls cls :: exD.map Cond.declares) (hot : ∀ w ∈ Cond.classLink own ik cls :: Cond.initialized cls :: vx_atS own ic cls exS, vx_ot w = true)
    (d0 : decode cc pc = .ok (.new ik, 3)) (d3 : decode cc (pc + 3) = .ok (.dup, 1)) (d4 : decode cc (pc + 4) = .ok (.ldc_w is, 3)) (d7 : decode cc (pc + 7) = .ok (.invokespecial ic, 3)) (d10 : decode cc (pc + 10) = .ok (.athrow, 1))
    (hf : 5 < rm.frames) (hlo : (st.map fun v => v.category).sum + 82 ≤ rm.locals) (hc : k + 1 ≤ rm.cells) (hs : j + 6 ≤ rm.slots) (v : V) (hv : ex v = cls) (hok : okx v) (hw : wx v = ws) : K_ X k j ws pc lo st := by
  intro H locs ls hP hD hS hL
  subst ho
  obtain ⟨Qc, hQ⟩ := hT
  obtain ⟨sa, hsa⟩ := C.S.2.2.2.2.2.2.2.1 _ (List.mem_of_getElem? hS0)
  have hca := C.S.2.2.2.2.2.2.2.2.2.2.1 _ (List.mem_of_getElem? hC0)
  have hat := vx_hat (args := x_a X) (s := x_s X) (L := vx_atS "StruckCounts" ic cls exS) (B := Cond.castable cls cls :: exD.map Cond.declares) (fun w hw => C.w w (hg w hw)) hb (vx_c (hca.use rfl) (fun w hw => by
    obtain ⟨q, hq, rfl⟩ := List.mem_map.mp hw
    exact (C.S.2.2.2.2.2.2.2.2.2.2.2.2.1 q hq).use rfl))
  rw [hQ]
  refine vx_throwSW (A := x_A X) C.e C.b hl C.o hcls hnm (C.at iK h1) (C.at iI0 h2) hsa hat hot C.S.2.2.2.2.2.2.1.1 C.S.2.2.2.2.2.2.1.2 hS (hL.1.trans C.nn.symm) d0 d3 d4 d7 d10 (fun x hx => absurd (htab x hx) (fun z => z)) (by rw [C.R]; exact hf) (by rw [C.R]; exact hlo) (by rw [C.R]; exact hc) (by rw [C.R]; exact hs) C.l (fun t hA hz hq => ?_) hS.2.2 (by rw [C.R]; exact hc) (by rw [C.R]; exact hs)
  refine ⟨⟨v, hv.symm, hok, ?_, by rw [hw]; exact hD⟩, Nat.le_trans hS.1 hz, fun q h1 h2 => ?_⟩
  · rw [hw]
    exact hP.kept fun i q hi => hq q.1 (hP i q hi).lt
  · rw [hq q (Nat.lt_of_lt_of_le h1 hS.1)]
    exact hS.2.1 q h1 h2
end KTW
end
section
theorem in_X6_checkNextPrime_X6 : ∀ w ∈ wsX60, w ∈ wsX6_checkNextPrime := by decide +kernel
set_option maxHeartbeats 4000000 in
set_option maxRecDepth 100000 in
theorem c_X6_checkNextPrime (l : Launch) (G : KG) (sc tx so pr b2 : Nat) (b t : Nat) (tl bd cm sk : Int) (n k m : Nat) (hS : BdS n k m bd cm sk) (hfl : l.stackTraces = false) : Cxt l G yX6_checkNextPrime wsX6_checkNextPrime (rmD 6 1 6) [.ref sc] [(sc, .inr (5, [.ref tx, .ref b, .ref so, .ref pr, .ref b2])), (b, .inr (0, [.ref t, .int (iI tl), .int (iI bd), .int (iI cm), .long (jL sk)]))] (fun u : Unit => ¬ nxI n k = -1) (fun u : Unit => none) (fun u : Unit => [(sc, .inr (5, [.ref tx, .ref b, .ref so, .ref pr, .ref b2])), (b, .inr (0, [.ref t, .int (iI tl), .int (iI bd), .int (iI cm), .long (jL sk)]))]) (fun v : Unit => nxI n k = -1) (fun v : Unit => "java/lang/IllegalStateException") (fun v : Unit => [(sc, .inr (5, [.ref tx, .ref b, .ref so, .ref pr, .ref b2])), (b, .inr (0, [.ref t, .int (iI tl), .int (iI bd), .int (iI cm), .long (jL sk)]))]) := by
  refine Cxt.of (cc := cX6_checkNextPrime) (maxL := 1) (ret := none) (by decide +kernel) rfl (Nat.le_of_ble_eq_true rfl) ?_
  intro X C hG hL hnm hR hQ htab
  subst hG
  subst hL
  have C : Cx X cX6_checkNextPrime RX6 wsX6_checkNextPrime none 1 (rmD 6 1 6) := C
  have hTh : Thr X (fun v : Unit => nxI n k = -1) (fun v : Unit => "java/lang/IllegalStateException") (fun v : Unit => [(sc, .inr (5, [.ref tx, .ref b, .ref so, .ref pr, .ref b2])), (b, .inr (0, [.ref t, .int (iI tl), .int (iI bd), .int (iI cm), .long (jL sk)]))]) := ⟨_, by rw [C.R]; exact hQ⟩
  show K_ X 0 0 [(sc, .inr (5, [.ref tx, .ref b, .ref so, .ref pr, .ref b2])), (b, .inr (0, [.ref t, .int (iI tl), .int (iI bd), .int (iI cm), .long (jL sk)]))] 0 [(0, .ref sc)] []
  refine k_aload_n C 0 rfl dX6_checkNextPrime_0 rfl ?_
  refine k_get C (Cn := RX6) (T := TX6) (N := 5) (ci := 5) (ref := "StruckCounts") in_X6_checkNextPrime_X6 0 rfl rfl 1 (by decide) 3 rfl rfl (v := .ref b) rfl dX6_checkNextPrime_1 ?_
  refine k_callV C (y := yX0_nextPrime) [] 0 rfl (c_X0_nextPrime (x_l X) (x_G X) b t tl bd cm sk n k m (by first | assumption | omega)) gX6_checkNextPrime_X0_nextPrime rfl ⟨rfl, by decide +kernel, by decide +kernel, by decide +kernel⟩ ⟨by decide, by decide⟩ 1 (fs := [.ref t, .int (iI tl), .int (iI bd), .int (iI cm), .long (jL sk)]) rfl rfl rfl [1] (by decide) (wc := [(b, .inr (0, [.ref t, .int (iI tl), .int (iI bd), .int (iI cm), .long (jL sk)]))]) rfl [] rfl (Nat.le_of_ble_eq_true rfl) ⟨Nat.le_of_ble_eq_true rfl, Nat.le_of_ble_eq_true rfl⟩ dX6_checkNextPrime_4 (fun _ => [(sc, .inr (5, [.ref tx, .ref b, .ref so, .ref pr, .ref b2])), (b, .inr (0, [.ref t, .int (iI tl), .int (iI bd), .int (iI cm), .long (jL sk)]))]) (Or.inl (fun _ => ⟨rfl, rfl⟩)) (fun u4 => [.int (iI u4)]) (fun _ => rfl) 0 0 ⟨rfl, rfl⟩ (fun u4 hu4 => ?_)
  have hr := nxI_rng n k
  refine k_iconst C dX6_checkNextPrime_7 ?_
  refine k_icmp_ne C 22 (⟨by omega, by omega⟩) (⟨by omega, by omega⟩) dX6_checkNextPrime_8 (by decide) (fun c8 => ?_) (fun c8 => ?_)
  · skip
    exact k_vret C hR (u := ()) rfl (by first | trivial | omega) rfl (Nat.le_of_ble_eq_true rfl) (Nat.le_of_ble_eq_true rfl) dX6_checkNextPrime_22
  · skip
    exact k_throwW C hTh htab hfl rfl 1 rfl 1 rfl 1 2 rfl rfl (by decide +kernel) (by decide +kernel) (by decide +kernel) (by decide +kernel) (by decide +kernel) dX6_checkNextPrime_11 dX6_checkNextPrime_14 dX6_checkNextPrime_15 dX6_checkNextPrime_18 dX6_checkNextPrime_21 (Nat.le_of_ble_eq_true rfl) (Nat.le_of_ble_eq_true rfl) (Nat.le_of_ble_eq_true rfl) (Nat.le_of_ble_eq_true rfl) () rfl (by first | trivial | omega) rfl
end
section
def cmI (k m : Nat) (j : Int) : Int := if j < (k : Int) then (if m.testBit j.toNat then (sp j.toNat : Int) else -(sp j.toNat : Int)) else 0
def abI (n k m : Nat) (w : Int) : Int := if w = 0 then (n : Int) else if w = 1 then (SZ n : Int) else if w = 2 then (popc m : Int) else if w = 3 then (k : Int) - (popc m : Int) else if w = 4 then (cA m k n : Int) else if w = 5 then nxI n k else pA ((k : Int) - 1)
theorem Tl_up {n k m : Nat} {bd cm sk tb ts : Int} {fv fr fs : Nat → Int} (hS : BdS n k m bd cm sk) (h : TlOK n k m tb ts fv fr fs) : BdT n k m cm tb ts fv fr fs := Or.inr ⟨k, Nat.le_refl _, hS.2.1, h⟩
theorem Tl_cntI {n t m : Nat} {tb ts q : Int} {fv fr fs : Nat → Int} (h : TlOK n t m tb ts fv fr fs) (hq : 0 ≤ q ∧ q < (SZ n : Int)) : rA fr ts q 0 + rA fr ts q 1 + rA fr ts q 2 + rA fr ts q 3 = (cA m t (qv n q.toNat) : Int) := by
  have := Tl_cnt h (q := q.toNat) (by omega)
  rwa [Int.toNat_of_nonneg hq.1] at this
theorem Tl_rAI {n t m : Nat} {tb ts q r : Int} {fv fr fs : Nat → Int} (h : TlOK n t m tb ts fv fr fs) (hq : 0 ≤ q ∧ q < (SZ n : Int)) (hr : 0 ≤ r ∧ r ≤ 3) : rA fr ts q r = (cR m t r.toNat (qv n q.toNat) : Int) := by
  have := Tl_rA h (q := q.toNat) (by omega) (r := r.toNat) (by omega)
  rwa [Int.toNat_of_nonneg hq.1, Int.toNat_of_nonneg hr.1] at this

theorem in_X6_checkQuotient_X6 : ∀ w ∈ wsX60, w ∈ wsX6_checkQuotient := by decide +kernel
theorem in_X6_checkQuotient_X3 : ∀ w ∈ wsX30, w ∈ wsX6_checkQuotient := by decide +kernel
set_option maxHeartbeats 4000000 in
set_option maxRecDepth 100000 in
theorem c_X6_checkQuotient (l : Launch) (G : KG) (sc tx so pr b2 : Nat) (b t va re su : Nat) (tl tb ts bd cm sk : Int) (n k m : Nat) (fv fr fs : Nat → Int) (i : Int) (hS : BdS n k m bd cm sk) (hT : BdT n k m tl tb ts fv fr fs) (hi : -2147483648 ≤ i ∧ i < 2147483648) (hfl : l.stackTraces = false) : Cxt l G yX6_checkQuotient wsX6_checkQuotient (rmD 6 1 6) [.ref sc, .int (iI i)] [(sc, .inr (5, [.ref tx, .ref b, .ref so, .ref pr, .ref b2])), (b, .inr (0, [.ref t, .int (iI tl), .int (iI bd), .int (iI cm), .long (jL sk)])), (t, .inr (3, [.ref va, .ref re, .ref su, .int (iI tb), .int (iI ts)])), (va, .inl (g_I G, 631, .inl (aI fv))), (re, .inl (g_I G, 2524, .inl (aI fr))), (su, .inl (g_J G, 631, .inr (.inl (aL fs))))] (fun u : Int × Int × Int × (Nat → Int) × (Nat → Int) × (Nat → Int) => (0 ≤ i ∧ i < (SZ n : Int)) ∧ BdT n k m u.1 u.2.1 u.2.2.1 u.2.2.2.1 u.2.2.2.2.1 u.2.2.2.2.2) (fun u : Int × Int × Int × (Nat → Int) × (Nat → Int) × (Nat → Int) => none) (fun u : Int × Int × Int × (Nat → Int) × (Nat → Int) × (Nat → Int) => [(sc, .inr (5, [.ref tx, .ref b, .ref so, .ref pr, .ref b2])), (b, .inr (0, [.ref t, .int (iI u.1), .int (iI bd), .int (iI cm), .long (jL sk)])), (t, .inr (3, [.ref va, .ref re, .ref su, .int (iI u.2.1), .int (iI u.2.2.1)])), (va, .inl (g_I G, 631, .inl (aI u.2.2.2.1))), (re, .inl (g_I G, 2524, .inl (aI u.2.2.2.2.1))), (su, .inl (g_J G, 631, .inr (.inl (aL u.2.2.2.2.2))))]) (fun v : Int × Int × Int × (Nat → Int) × (Nat → Int) × (Nat → Int) => ¬ (0 ≤ i ∧ i < (SZ n : Int)) ∧ BdT n k m v.1 v.2.1 v.2.2.1 v.2.2.2.1 v.2.2.2.2.1 v.2.2.2.2.2) (fun v : Int × Int × Int × (Nat → Int) × (Nat → Int) × (Nat → Int) => "java/lang/IndexOutOfBoundsException") (fun v : Int × Int × Int × (Nat → Int) × (Nat → Int) × (Nat → Int) => [(sc, .inr (5, [.ref tx, .ref b, .ref so, .ref pr, .ref b2])), (b, .inr (0, [.ref t, .int (iI v.1), .int (iI bd), .int (iI cm), .long (jL sk)])), (t, .inr (3, [.ref va, .ref re, .ref su, .int (iI v.2.1), .int (iI v.2.2.1)])), (va, .inl (g_I G, 631, .inl (aI v.2.2.2.1))), (re, .inl (g_I G, 2524, .inl (aI v.2.2.2.2.1))), (su, .inl (g_J G, 631, .inr (.inl (aL v.2.2.2.2.2))))]) := by
  refine Cxt.of (cc := cX6_checkQuotient) (maxL := 2) (ret := none) (by decide +kernel) rfl (Nat.le_of_ble_eq_true rfl) ?_
  intro X C hG hL hnm hR hQ htab
  subst hG
  subst hL
  have C : Cx X cX6_checkQuotient RX6 wsX6_checkQuotient none 2 (rmD 6 1 6) := C
  have hTh : Thr X (fun v : Int × Int × Int × (Nat → Int) × (Nat → Int) × (Nat → Int) => ¬ (0 ≤ i ∧ i < (SZ n : Int)) ∧ BdT n k m v.1 v.2.1 v.2.2.1 v.2.2.2.1 v.2.2.2.2.1 v.2.2.2.2.2) (fun v : Int × Int × Int × (Nat → Int) × (Nat → Int) × (Nat → Int) => "java/lang/IndexOutOfBoundsException") (fun v : Int × Int × Int × (Nat → Int) × (Nat → Int) × (Nat → Int) => [(sc, .inr (5, [.ref tx, .ref b, .ref so, .ref pr, .ref b2])), (b, .inr (0, [.ref t, .int (iI v.1), .int (iI bd), .int (iI cm), .long (jL sk)])), (t, .inr (3, [.ref va, .ref re, .ref su, .int (iI v.2.1), .int (iI v.2.2.1)])), (va, .inl (g_I (x_G X), 631, .inl (aI v.2.2.2.1))), (re, .inl (g_I (x_G X), 2524, .inl (aI v.2.2.2.2.1))), (su, .inl (g_J (x_G X), 631, .inr (.inl (aL v.2.2.2.2.2))))]) := ⟨_, by rw [C.R]; exact hQ⟩
  obtain ⟨s1, s2, s3, s4, s5, s6, s7⟩ := id hS
  show K_ X 0 0 [(sc, .inr (5, [.ref tx, .ref b, .ref so, .ref pr, .ref b2])), (b, .inr (0, [.ref t, .int (iI tl), .int (iI bd), .int (iI cm), .long (jL sk)])), (t, .inr (3, [.ref va, .ref re, .ref su, .int (iI tb), .int (iI ts)])), (va, .inl (g_I (x_G X), 631, .inl (aI fv))), (re, .inl (g_I (x_G X), 2524, .inl (aI fr))), (su, .inl (g_J (x_G X), 631, .inr (.inl (aL fs))))] 0 [(0, .ref sc), (1, .int (iI i))] []
  refine k_iload_n C 1 rfl dX6_checkQuotient_0 rfl ?_
  refine k_if_lt C 18 (⟨by omega, by omega⟩) dX6_checkQuotient_1 (by decide) (fun c1 => ?_) (fun c1 => ?_)
  · skip
    exact k_throwW C hTh htab hfl rfl 5 rfl 2 rfl 1 2 rfl rfl (by decide +kernel) (by decide +kernel) (by decide +kernel) (by decide +kernel) (by decide +kernel) dX6_checkQuotient_18 dX6_checkQuotient_21 dX6_checkQuotient_22 dX6_checkQuotient_25 dX6_checkQuotient_28 (Nat.le_of_ble_eq_true rfl) (Nat.le_of_ble_eq_true rfl) (Nat.le_of_ble_eq_true rfl) (Nat.le_of_ble_eq_true rfl) (tl, tb, ts, fv, fr, fs) rfl (by (try dsimp only) <;> exact (⟨by omega, hT⟩)) rfl
  · skip
    refine k_iload_n C 1 rfl dX6_checkQuotient_4 rfl ?_
    refine k_aload_n C 0 rfl dX6_checkQuotient_5 rfl ?_
    refine k_get C (Cn := RX6) (T := TX6) (N := 5) (ci := 5) (ref := "StruckCounts") in_X6_checkQuotient_X6 0 rfl rfl 1 (by decide) 3 rfl rfl (v := .ref b) rfl dX6_checkQuotient_6 ?_
    refine k_callV C (y := yX0_tally) [] 0 rfl (c_X0_tally (x_l X) (x_G X) b t va re su tl tb ts bd cm sk n k m fv fr fs (by first | assumption | omega) (by first | assumption | omega)) gX6_checkQuotient_X0_tally rfl ⟨rfl, by decide +kernel, by decide +kernel, by decide +kernel⟩ ⟨by decide, by decide⟩ 1 (fs := [.ref t, .int (iI tl), .int (iI bd), .int (iI cm), .long (jL sk)]) rfl rfl rfl [1, 2, 3, 4, 5] (by decide) (wc := [(b, .inr (0, [.ref t, .int (iI tl), .int (iI bd), .int (iI cm), .long (jL sk)])), (t, .inr (3, [.ref va, .ref re, .ref su, .int (iI tb), .int (iI ts)])), (va, .inl (g_I (x_G X), 631, .inl (aI fv))), (re, .inl (g_I (x_G X), 2524, .inl (aI fr))), (su, .inl (g_J (x_G X), 631, .inr (.inl (aL fs))))]) rfl [.int (iI i)] rfl (Nat.le_of_ble_eq_true rfl) ⟨Nat.le_of_ble_eq_true rfl, Nat.le_of_ble_eq_true rfl⟩ dX6_checkQuotient_9 (fun u9 => [(sc, .inr (5, [.ref tx, .ref b, .ref so, .ref pr, .ref b2])), (b, .inr (0, [.ref t, .int (iI cm), .int (iI bd), .int (iI cm), .long (jL sk)])), (t, .inr (3, [.ref va, .ref re, .ref su, .int (iI u9.1), .int (iI u9.2.1)])), (va, .inl (g_I (x_G X), 631, .inl (aI u9.2.2.1))), (re, .inl (g_I (x_G X), 2524, .inl (aI u9.2.2.2.1))), (su, .inl (g_J (x_G X), 631, .inr (.inl (aL u9.2.2.2.2))))]) (Or.inr ⟨[0], [0, 1, 2, 3, 4, 5], [(sc, .inr (5, [.ref tx, .ref b, .ref so, .ref pr, .ref b2]))], rfl, by decide, by decide, by decide, fun _ => rfl⟩) (fun u9 => [.ref t, .int (iI i)]) (fun _ => rfl) 0 0 ⟨rfl, rfl⟩ (fun u9 hu9 => ?_)
    have hB := Tl_up hS hu9
    have hz := hu9.2.1
    have hz2 := SZ_631 s5
    refine k_getN C (Cn := RX3) (T := TX3) (N := 5) (ci := 3) (ref := "StruckCounts$Tally") in_X6_checkQuotient_X3 2 rfl rfl 4 (by decide) 0 rfl rfl (v := .int (iI u9.2.1)) rfl dX6_checkQuotient_12 ?_
    refine k_icmp_lt C 29 (⟨by omega, by omega⟩) (⟨by omega, by omega⟩) dX6_checkQuotient_15 (by decide) (fun c15 => ?_) (fun c15 => ?_)
    · skip
      exact k_vret C hR (u := (cm, u9.1, u9.2.1, u9.2.2.1, u9.2.2.2.1, u9.2.2.2.2)) rfl (by (try dsimp only) <;> exact (⟨by omega, hB⟩)) rfl (Nat.le_of_ble_eq_true rfl) (Nat.le_of_ble_eq_true rfl) dX6_checkQuotient_29
    · skip
      exact k_throwW C hTh htab hfl rfl 5 rfl 2 rfl 1 2 rfl rfl (by decide +kernel) (by decide +kernel) (by decide +kernel) (by decide +kernel) (by decide +kernel) dX6_checkQuotient_18 dX6_checkQuotient_21 dX6_checkQuotient_22 dX6_checkQuotient_25 dX6_checkQuotient_28 (Nat.le_of_ble_eq_true rfl) (Nat.le_of_ble_eq_true rfl) (Nat.le_of_ble_eq_true rfl) (Nat.le_of_ble_eq_true rfl) (cm, u9.1, u9.2.1, u9.2.2.1, u9.2.2.2.1, u9.2.2.2.2) rfl (by (try dsimp only) <;> exact (⟨by omega, hB⟩)) rfl
theorem in_X6_quotient_X6 : ∀ w ∈ wsX60, w ∈ wsX6_quotient := by decide +kernel
set_option maxHeartbeats 4000000 in
set_option maxRecDepth 100000 in
theorem c_X6_quotient (l : Launch) (G : KG) (sc tx so pr b2 : Nat) (b t va re su : Nat) (tl tb ts bd cm sk : Int) (n k m : Nat) (fv fr fs : Nat → Int) (i : Int) (hS : BdS n k m bd cm sk) (hT : BdT n k m tl tb ts fv fr fs) (hi : -2147483648 ≤ i ∧ i < 2147483648) (hfl : l.stackTraces = false) : Cxt l G yX6_quotient wsX6_quotient (rmD 7 1 6) [.ref sc, .int (iI i)] [(sc, .inr (5, [.ref tx, .ref b, .ref so, .ref pr, .ref b2])), (b, .inr (0, [.ref t, .int (iI tl), .int (iI bd), .int (iI cm), .long (jL sk)])), (t, .inr (3, [.ref va, .ref re, .ref su, .int (iI tb), .int (iI ts)])), (va, .inl (g_I G, 631, .inl (aI fv))), (re, .inl (g_I G, 2524, .inl (aI fr))), (su, .inl (g_J G, 631, .inr (.inl (aL fs))))] (fun u : Int × Int × Int × Int × (Nat → Int) × (Nat → Int) × (Nat → Int) => (0 ≤ i ∧ i < (SZ n : Int)) ∧ u.1 = (qv n i.toNat : Int) ∧ BdT n k m u.2.1 u.2.2.1 u.2.2.2.1 u.2.2.2.2.1 u.2.2.2.2.2.1 u.2.2.2.2.2.2) (fun u : Int × Int × Int × Int × (Nat → Int) × (Nat → Int) × (Nat → Int) => some (.int (iI u.1))) (fun u : Int × Int × Int × Int × (Nat → Int) × (Nat → Int) × (Nat → Int) => [(sc, .inr (5, [.ref tx, .ref b, .ref so, .ref pr, .ref b2])), (b, .inr (0, [.ref t, .int (iI u.2.1), .int (iI bd), .int (iI cm), .long (jL sk)])), (t, .inr (3, [.ref va, .ref re, .ref su, .int (iI u.2.2.1), .int (iI u.2.2.2.1)])), (va, .inl (g_I G, 631, .inl (aI u.2.2.2.2.1))), (re, .inl (g_I G, 2524, .inl (aI u.2.2.2.2.2.1))), (su, .inl (g_J G, 631, .inr (.inl (aL u.2.2.2.2.2.2))))]) (fun v : Int × Int × Int × (Nat → Int) × (Nat → Int) × (Nat → Int) => ¬ (0 ≤ i ∧ i < (SZ n : Int)) ∧ BdT n k m v.1 v.2.1 v.2.2.1 v.2.2.2.1 v.2.2.2.2.1 v.2.2.2.2.2) (fun v : Int × Int × Int × (Nat → Int) × (Nat → Int) × (Nat → Int) => "java/lang/IndexOutOfBoundsException") (fun v : Int × Int × Int × (Nat → Int) × (Nat → Int) × (Nat → Int) => [(sc, .inr (5, [.ref tx, .ref b, .ref so, .ref pr, .ref b2])), (b, .inr (0, [.ref t, .int (iI v.1), .int (iI bd), .int (iI cm), .long (jL sk)])), (t, .inr (3, [.ref va, .ref re, .ref su, .int (iI v.2.1), .int (iI v.2.2.1)])), (va, .inl (g_I G, 631, .inl (aI v.2.2.2.1))), (re, .inl (g_I G, 2524, .inl (aI v.2.2.2.2.1))), (su, .inl (g_J G, 631, .inr (.inl (aL v.2.2.2.2.2))))]) := by
  refine Cxt.of (cc := cX6_quotient) (maxL := 2) (ret := (some .int)) (by decide +kernel) rfl (Nat.le_of_ble_eq_true rfl) ?_
  intro X C hG hL hnm hR hQ htab
  subst hG
  subst hL
  have C : Cx X cX6_quotient RX6 wsX6_quotient (some .int) 2 (rmD 7 1 6) := C
  have hTh : Thr X (fun v : Int × Int × Int × (Nat → Int) × (Nat → Int) × (Nat → Int) => ¬ (0 ≤ i ∧ i < (SZ n : Int)) ∧ BdT n k m v.1 v.2.1 v.2.2.1 v.2.2.2.1 v.2.2.2.2.1 v.2.2.2.2.2) (fun v : Int × Int × Int × (Nat → Int) × (Nat → Int) × (Nat → Int) => "java/lang/IndexOutOfBoundsException") (fun v : Int × Int × Int × (Nat → Int) × (Nat → Int) × (Nat → Int) => [(sc, .inr (5, [.ref tx, .ref b, .ref so, .ref pr, .ref b2])), (b, .inr (0, [.ref t, .int (iI v.1), .int (iI bd), .int (iI cm), .long (jL sk)])), (t, .inr (3, [.ref va, .ref re, .ref su, .int (iI v.2.1), .int (iI v.2.2.1)])), (va, .inl (g_I (x_G X), 631, .inl (aI v.2.2.2.1))), (re, .inl (g_I (x_G X), 2524, .inl (aI v.2.2.2.2.1))), (su, .inl (g_J (x_G X), 631, .inr (.inl (aL v.2.2.2.2.2))))]) := ⟨_, by rw [C.R]; exact hQ⟩
  obtain ⟨s1, s2, s3, s4, s5, s6, s7⟩ := id hS
  show K_ X 0 0 [(sc, .inr (5, [.ref tx, .ref b, .ref so, .ref pr, .ref b2])), (b, .inr (0, [.ref t, .int (iI tl), .int (iI bd), .int (iI cm), .long (jL sk)])), (t, .inr (3, [.ref va, .ref re, .ref su, .int (iI tb), .int (iI ts)])), (va, .inl (g_I (x_G X), 631, .inl (aI fv))), (re, .inl (g_I (x_G X), 2524, .inl (aI fr))), (su, .inl (g_J (x_G X), 631, .inr (.inl (aL fs))))] 0 [(0, .ref sc), (1, .int (iI i))] []
  refine k_aload_n C 0 rfl dX6_quotient_0 rfl ?_
  refine k_iload_n C 1 rfl dX6_quotient_1 rfl ?_
  refine k_callVx C hTh htab (y := yX6_checkQuotient) [.int (iI i)] 1 rfl (c_X6_checkQuotient (x_l X) (x_G X) sc tx so pr b2 b t va re su tl tb ts bd cm sk n k m fv fr fs i (by assumption) (by assumption) (by assumption) (hfl)) gX6_quotient_X6_checkQuotient rfl ⟨rfl, by decide +kernel, by decide +kernel, by decide +kernel⟩ ⟨by decide, by decide⟩ 0 (fs := [.ref tx, .ref b, .ref so, .ref pr, .ref b2]) rfl rfl rfl [0, 1, 2, 3, 4, 5] [] [0, 1, 2, 3, 4, 5] (by decide) (wc := [(sc, .inr (5, [.ref tx, .ref b, .ref so, .ref pr, .ref b2])), (b, .inr (0, [.ref t, .int (iI tl), .int (iI bd), .int (iI cm), .long (jL sk)])), (t, .inr (3, [.ref va, .ref re, .ref su, .int (iI tb), .int (iI ts)])), (va, .inl (g_I (x_G X), 631, .inl (aI fv))), (re, .inl (g_I (x_G X), 2524, .inl (aI fr))), (su, .inl (g_J (x_G X), 631, .inr (.inl (aL fs))))]) rfl [] rfl (Nat.le_of_ble_eq_true rfl) ⟨Nat.le_of_ble_eq_true rfl, Nat.le_of_ble_eq_true rfl⟩ dX6_quotient_2 (fun u2 => [(sc, .inr (5, [.ref tx, .ref b, .ref so, .ref pr, .ref b2])), (b, .inr (0, [.ref t, .int (iI u2.1), .int (iI bd), .int (iI cm), .long (jL sk)])), (t, .inr (3, [.ref va, .ref re, .ref su, .int (iI u2.2.1), .int (iI u2.2.2.1)])), (va, .inl (g_I (x_G X), 631, .inl (aI u2.2.2.2.1))), (re, .inl (g_I (x_G X), 2524, .inl (aI u2.2.2.2.2.1))), (su, .inl (g_J (x_G X), 631, .inr (.inl (aL u2.2.2.2.2.2))))]) (fun v => [(sc, .inr (5, [.ref tx, .ref b, .ref so, .ref pr, .ref b2])), (b, .inr (0, [.ref t, .int (iI v.1), .int (iI bd), .int (iI cm), .long (jL sk)])), (t, .inr (3, [.ref va, .ref re, .ref su, .int (iI v.2.1), .int (iI v.2.2.1)])), (va, .inl (g_I (x_G X), 631, .inl (aI v.2.2.2.1))), (re, .inl (g_I (x_G X), 2524, .inl (aI v.2.2.2.2.1))), (su, .inl (g_J (x_G X), 631, .inr (.inl (aL v.2.2.2.2.2))))]) (wr := []) rfl (by decide) (by decide) (by decide) (fun _ => rfl) (fun _ => rfl) (fun u2 => []) (fun _ => rfl) 1 6 ⟨rfl, rfl⟩ (fun v hv => ⟨v, rfl, hv, rfl⟩) (fun u2 hu2 => ?_)
  refine k_aload_n C 0 rfl dX6_quotient_5 rfl ?_
  refine k_get C (Cn := RX6) (T := TX6) (N := 5) (ci := 5) (ref := "StruckCounts") in_X6_quotient_X6 0 rfl rfl 1 (by decide) 1 rfl rfl (v := .ref b) rfl dX6_quotient_6 ?_
  refine k_callV C (y := yX0_tally) [] 0 rfl (c_X0_tally (x_l X) (x_G X) b t va re su u2.1 u2.2.1 u2.2.2.1 bd cm sk n k m u2.2.2.2.1 u2.2.2.2.2.1 u2.2.2.2.2.2 (by first | assumption | omega) (hu2.2)) gX6_quotient_X0_tally rfl ⟨rfl, by decide +kernel, by decide +kernel, by decide +kernel⟩ ⟨by decide, by decide⟩ 1 (fs := [.ref t, .int (iI u2.1), .int (iI bd), .int (iI cm), .long (jL sk)]) rfl rfl rfl [1, 2, 3, 4, 5] (by decide) (wc := [(b, .inr (0, [.ref t, .int (iI u2.1), .int (iI bd), .int (iI cm), .long (jL sk)])), (t, .inr (3, [.ref va, .ref re, .ref su, .int (iI u2.2.1), .int (iI u2.2.2.1)])), (va, .inl (g_I (x_G X), 631, .inl (aI u2.2.2.2.1))), (re, .inl (g_I (x_G X), 2524, .inl (aI u2.2.2.2.2.1))), (su, .inl (g_J (x_G X), 631, .inr (.inl (aL u2.2.2.2.2.2))))]) rfl [] rfl (Nat.le_of_ble_eq_true rfl) ⟨Nat.le_of_ble_eq_true rfl, Nat.le_of_ble_eq_true rfl⟩ dX6_quotient_9 (fun u9 => [(sc, .inr (5, [.ref tx, .ref b, .ref so, .ref pr, .ref b2])), (b, .inr (0, [.ref t, .int (iI cm), .int (iI bd), .int (iI cm), .long (jL sk)])), (t, .inr (3, [.ref va, .ref re, .ref su, .int (iI u9.1), .int (iI u9.2.1)])), (va, .inl (g_I (x_G X), 631, .inl (aI u9.2.2.1))), (re, .inl (g_I (x_G X), 2524, .inl (aI u9.2.2.2.1))), (su, .inl (g_J (x_G X), 631, .inr (.inl (aL u9.2.2.2.2))))]) (Or.inr ⟨[0], [0, 1, 2, 3, 4, 5], [(sc, .inr (5, [.ref tx, .ref b, .ref so, .ref pr, .ref b2]))], rfl, by decide, by decide, by decide, fun _ => rfl⟩) (fun u9 => [.ref t]) (fun _ => rfl) 1 6 ⟨rfl, rfl⟩ (fun u9 hu9 => ?_)
  have hB := Tl_up hS hu9
  have hz := hu9.2.1
  have hz2 := SZ_631 s5
  refine k_iload_n C 1 rfl dX6_quotient_12 rfl ?_
  refine k_callV C (y := yX3_valueAt) [.int (iI i)] 1 rfl (c_X3_valueAt (x_l X) (x_G X) t va re su u9.1 u9.2.1 i u9.2.2.1 (by omega) (by omega)) gX6_quotient_X3_valueAt rfl ⟨rfl, by decide +kernel, by decide +kernel, by decide +kernel⟩ ⟨by decide, by decide⟩ 2 (fs := [.ref va, .ref re, .ref su, .int (iI u9.1), .int (iI u9.2.1)]) rfl rfl rfl [2, 3] (by decide) (wc := [(t, .inr (3, [.ref va, .ref re, .ref su, .int (iI u9.1), .int (iI u9.2.1)])), (va, .inl (g_I (x_G X), 631, .inl (aI u9.2.2.1)))]) rfl [] rfl (Nat.le_of_ble_eq_true rfl) ⟨Nat.le_of_ble_eq_true rfl, Nat.le_of_ble_eq_true rfl⟩ dX6_quotient_13 (fun _ => [(sc, .inr (5, [.ref tx, .ref b, .ref so, .ref pr, .ref b2])), (b, .inr (0, [.ref t, .int (iI cm), .int (iI bd), .int (iI cm), .long (jL sk)])), (t, .inr (3, [.ref va, .ref re, .ref su, .int (iI u9.1), .int (iI u9.2.1)])), (va, .inl (g_I (x_G X), 631, .inl (aI u9.2.2.1))), (re, .inl (g_I (x_G X), 2524, .inl (aI u9.2.2.2.1))), (su, .inl (g_J (x_G X), 631, .inr (.inl (aL u9.2.2.2.2))))]) (Or.inl (fun _ => ⟨rfl, rfl⟩)) (fun u13 => [.int (iI u13)]) (fun _ => rfl) 1 6 ⟨rfl, rfl⟩ (fun u13 hu13 => ?_)
  exact k_iret C hR (u := (u13, cm, u9.1, u9.2.1, u9.2.2.1, u9.2.2.2.1, u9.2.2.2.2)) rfl (by (try dsimp only) <;> exact (⟨hu2.1, by rw [hu13, Tl_vA hu9 (by have := hu2.1; omega)], hB⟩)) rfl (Nat.le_of_ble_eq_true rfl) (Nat.le_of_ble_eq_true rfl) dX6_quotient_16
theorem in_X6_left_X6 : ∀ w ∈ wsX60, w ∈ wsX6_left := by decide +kernel
set_option maxHeartbeats 4000000 in
set_option maxRecDepth 100000 in
theorem c_X6_left (l : Launch) (G : KG) (sc tx so pr b2 : Nat) (b t va re su : Nat) (tl tb ts bd cm sk : Int) (n k m : Nat) (fv fr fs : Nat → Int) (i : Int) (hS : BdS n k m bd cm sk) (hT : BdT n k m tl tb ts fv fr fs) (hi : -2147483648 ≤ i ∧ i < 2147483648) (hfl : l.stackTraces = false) : Cxt l G yX6_left wsX6_left (rmD 7 1 6) [.ref sc, .int (iI i)] [(sc, .inr (5, [.ref tx, .ref b, .ref so, .ref pr, .ref b2])), (b, .inr (0, [.ref t, .int (iI tl), .int (iI bd), .int (iI cm), .long (jL sk)])), (t, .inr (3, [.ref va, .ref re, .ref su, .int (iI tb), .int (iI ts)])), (va, .inl (g_I G, 631, .inl (aI fv))), (re, .inl (g_I G, 2524, .inl (aI fr))), (su, .inl (g_J G, 631, .inr (.inl (aL fs))))] (fun u : Int × Int × Int × Int × (Nat → Int) × (Nat → Int) × (Nat → Int) => (0 ≤ i ∧ i < (SZ n : Int)) ∧ u.1 = (cA m k (qv n i.toNat) : Int) ∧ BdT n k m u.2.1 u.2.2.1 u.2.2.2.1 u.2.2.2.2.1 u.2.2.2.2.2.1 u.2.2.2.2.2.2) (fun u : Int × Int × Int × Int × (Nat → Int) × (Nat → Int) × (Nat → Int) => some (.int (iI u.1))) (fun u : Int × Int × Int × Int × (Nat → Int) × (Nat → Int) × (Nat → Int) => [(sc, .inr (5, [.ref tx, .ref b, .ref so, .ref pr, .ref b2])), (b, .inr (0, [.ref t, .int (iI u.2.1), .int (iI bd), .int (iI cm), .long (jL sk)])), (t, .inr (3, [.ref va, .ref re, .ref su, .int (iI u.2.2.1), .int (iI u.2.2.2.1)])), (va, .inl (g_I G, 631, .inl (aI u.2.2.2.2.1))), (re, .inl (g_I G, 2524, .inl (aI u.2.2.2.2.2.1))), (su, .inl (g_J G, 631, .inr (.inl (aL u.2.2.2.2.2.2))))]) (fun v : Int × Int × Int × (Nat → Int) × (Nat → Int) × (Nat → Int) => ¬ (0 ≤ i ∧ i < (SZ n : Int)) ∧ BdT n k m v.1 v.2.1 v.2.2.1 v.2.2.2.1 v.2.2.2.2.1 v.2.2.2.2.2) (fun v : Int × Int × Int × (Nat → Int) × (Nat → Int) × (Nat → Int) => "java/lang/IndexOutOfBoundsException") (fun v : Int × Int × Int × (Nat → Int) × (Nat → Int) × (Nat → Int) => [(sc, .inr (5, [.ref tx, .ref b, .ref so, .ref pr, .ref b2])), (b, .inr (0, [.ref t, .int (iI v.1), .int (iI bd), .int (iI cm), .long (jL sk)])), (t, .inr (3, [.ref va, .ref re, .ref su, .int (iI v.2.1), .int (iI v.2.2.1)])), (va, .inl (g_I G, 631, .inl (aI v.2.2.2.1))), (re, .inl (g_I G, 2524, .inl (aI v.2.2.2.2.1))), (su, .inl (g_J G, 631, .inr (.inl (aL v.2.2.2.2.2))))]) := by
  refine Cxt.of (cc := cX6_left) (maxL := 2) (ret := (some .int)) (by decide +kernel) rfl (Nat.le_of_ble_eq_true rfl) ?_
  intro X C hG hL hnm hR hQ htab
  subst hG
  subst hL
  have C : Cx X cX6_left RX6 wsX6_left (some .int) 2 (rmD 7 1 6) := C
  have hTh : Thr X (fun v : Int × Int × Int × (Nat → Int) × (Nat → Int) × (Nat → Int) => ¬ (0 ≤ i ∧ i < (SZ n : Int)) ∧ BdT n k m v.1 v.2.1 v.2.2.1 v.2.2.2.1 v.2.2.2.2.1 v.2.2.2.2.2) (fun v : Int × Int × Int × (Nat → Int) × (Nat → Int) × (Nat → Int) => "java/lang/IndexOutOfBoundsException") (fun v : Int × Int × Int × (Nat → Int) × (Nat → Int) × (Nat → Int) => [(sc, .inr (5, [.ref tx, .ref b, .ref so, .ref pr, .ref b2])), (b, .inr (0, [.ref t, .int (iI v.1), .int (iI bd), .int (iI cm), .long (jL sk)])), (t, .inr (3, [.ref va, .ref re, .ref su, .int (iI v.2.1), .int (iI v.2.2.1)])), (va, .inl (g_I (x_G X), 631, .inl (aI v.2.2.2.1))), (re, .inl (g_I (x_G X), 2524, .inl (aI v.2.2.2.2.1))), (su, .inl (g_J (x_G X), 631, .inr (.inl (aL v.2.2.2.2.2))))]) := ⟨_, by rw [C.R]; exact hQ⟩
  obtain ⟨s1, s2, s3, s4, s5, s6, s7⟩ := id hS
  show K_ X 0 0 [(sc, .inr (5, [.ref tx, .ref b, .ref so, .ref pr, .ref b2])), (b, .inr (0, [.ref t, .int (iI tl), .int (iI bd), .int (iI cm), .long (jL sk)])), (t, .inr (3, [.ref va, .ref re, .ref su, .int (iI tb), .int (iI ts)])), (va, .inl (g_I (x_G X), 631, .inl (aI fv))), (re, .inl (g_I (x_G X), 2524, .inl (aI fr))), (su, .inl (g_J (x_G X), 631, .inr (.inl (aL fs))))] 0 [(0, .ref sc), (1, .int (iI i))] []
  refine k_aload_n C 0 rfl dX6_left_0 rfl ?_
  refine k_iload_n C 1 rfl dX6_left_1 rfl ?_
  refine k_callVx C hTh htab (y := yX6_checkQuotient) [.int (iI i)] 1 rfl (c_X6_checkQuotient (x_l X) (x_G X) sc tx so pr b2 b t va re su tl tb ts bd cm sk n k m fv fr fs i (by assumption) (by assumption) (by assumption) (hfl)) gX6_left_X6_checkQuotient rfl ⟨rfl, by decide +kernel, by decide +kernel, by decide +kernel⟩ ⟨by decide, by decide⟩ 0 (fs := [.ref tx, .ref b, .ref so, .ref pr, .ref b2]) rfl rfl rfl [0, 1, 2, 3, 4, 5] [] [0, 1, 2, 3, 4, 5] (by decide) (wc := [(sc, .inr (5, [.ref tx, .ref b, .ref so, .ref pr, .ref b2])), (b, .inr (0, [.ref t, .int (iI tl), .int (iI bd), .int (iI cm), .long (jL sk)])), (t, .inr (3, [.ref va, .ref re, .ref su, .int (iI tb), .int (iI ts)])), (va, .inl (g_I (x_G X), 631, .inl (aI fv))), (re, .inl (g_I (x_G X), 2524, .inl (aI fr))), (su, .inl (g_J (x_G X), 631, .inr (.inl (aL fs))))]) rfl [] rfl (Nat.le_of_ble_eq_true rfl) ⟨Nat.le_of_ble_eq_true rfl, Nat.le_of_ble_eq_true rfl⟩ dX6_left_2 (fun u2 => [(sc, .inr (5, [.ref tx, .ref b, .ref so, .ref pr, .ref b2])), (b, .inr (0, [.ref t, .int (iI u2.1), .int (iI bd), .int (iI cm), .long (jL sk)])), (t, .inr (3, [.ref va, .ref re, .ref su, .int (iI u2.2.1), .int (iI u2.2.2.1)])), (va, .inl (g_I (x_G X), 631, .inl (aI u2.2.2.2.1))), (re, .inl (g_I (x_G X), 2524, .inl (aI u2.2.2.2.2.1))), (su, .inl (g_J (x_G X), 631, .inr (.inl (aL u2.2.2.2.2.2))))]) (fun v => [(sc, .inr (5, [.ref tx, .ref b, .ref so, .ref pr, .ref b2])), (b, .inr (0, [.ref t, .int (iI v.1), .int (iI bd), .int (iI cm), .long (jL sk)])), (t, .inr (3, [.ref va, .ref re, .ref su, .int (iI v.2.1), .int (iI v.2.2.1)])), (va, .inl (g_I (x_G X), 631, .inl (aI v.2.2.2.1))), (re, .inl (g_I (x_G X), 2524, .inl (aI v.2.2.2.2.1))), (su, .inl (g_J (x_G X), 631, .inr (.inl (aL v.2.2.2.2.2))))]) (wr := []) rfl (by decide) (by decide) (by decide) (fun _ => rfl) (fun _ => rfl) (fun u2 => []) (fun _ => rfl) 1 6 ⟨rfl, rfl⟩ (fun v hv => ⟨v, rfl, hv, rfl⟩) (fun u2 hu2 => ?_)
  refine k_aload_n C 0 rfl dX6_left_5 rfl ?_
  refine k_get C (Cn := RX6) (T := TX6) (N := 5) (ci := 5) (ref := "StruckCounts") in_X6_left_X6 0 rfl rfl 1 (by decide) 1 rfl rfl (v := .ref b) rfl dX6_left_6 ?_
  refine k_callV C (y := yX0_tally) [] 0 rfl (c_X0_tally (x_l X) (x_G X) b t va re su u2.1 u2.2.1 u2.2.2.1 bd cm sk n k m u2.2.2.2.1 u2.2.2.2.2.1 u2.2.2.2.2.2 (by first | assumption | omega) (hu2.2)) gX6_left_X0_tally rfl ⟨rfl, by decide +kernel, by decide +kernel, by decide +kernel⟩ ⟨by decide, by decide⟩ 1 (fs := [.ref t, .int (iI u2.1), .int (iI bd), .int (iI cm), .long (jL sk)]) rfl rfl rfl [1, 2, 3, 4, 5] (by decide) (wc := [(b, .inr (0, [.ref t, .int (iI u2.1), .int (iI bd), .int (iI cm), .long (jL sk)])), (t, .inr (3, [.ref va, .ref re, .ref su, .int (iI u2.2.1), .int (iI u2.2.2.1)])), (va, .inl (g_I (x_G X), 631, .inl (aI u2.2.2.2.1))), (re, .inl (g_I (x_G X), 2524, .inl (aI u2.2.2.2.2.1))), (su, .inl (g_J (x_G X), 631, .inr (.inl (aL u2.2.2.2.2.2))))]) rfl [] rfl (Nat.le_of_ble_eq_true rfl) ⟨Nat.le_of_ble_eq_true rfl, Nat.le_of_ble_eq_true rfl⟩ dX6_left_9 (fun u9 => [(sc, .inr (5, [.ref tx, .ref b, .ref so, .ref pr, .ref b2])), (b, .inr (0, [.ref t, .int (iI cm), .int (iI bd), .int (iI cm), .long (jL sk)])), (t, .inr (3, [.ref va, .ref re, .ref su, .int (iI u9.1), .int (iI u9.2.1)])), (va, .inl (g_I (x_G X), 631, .inl (aI u9.2.2.1))), (re, .inl (g_I (x_G X), 2524, .inl (aI u9.2.2.2.1))), (su, .inl (g_J (x_G X), 631, .inr (.inl (aL u9.2.2.2.2))))]) (Or.inr ⟨[0], [0, 1, 2, 3, 4, 5], [(sc, .inr (5, [.ref tx, .ref b, .ref so, .ref pr, .ref b2]))], rfl, by decide, by decide, by decide, fun _ => rfl⟩) (fun u9 => [.ref t]) (fun _ => rfl) 1 6 ⟨rfl, rfl⟩ (fun u9 hu9 => ?_)
  have hB := Tl_up hS hu9
  have hz := hu9.2.1
  have hz2 := SZ_631 s5
  refine k_iload_n C 1 rfl dX6_left_12 rfl ?_
  refine k_callV C (y := yX3_countAt) [.int (iI i)] 1 rfl (c_X3_countAt (x_l X) (x_G X) t va re su u9.1 u9.2.1 i u9.2.2.2.1 (by omega) (by omega)) gX6_left_X3_countAt rfl ⟨rfl, by decide +kernel, by decide +kernel, by decide +kernel⟩ ⟨by decide, by decide⟩ 2 (fs := [.ref va, .ref re, .ref su, .int (iI u9.1), .int (iI u9.2.1)]) rfl rfl rfl [2, 4] (by decide) (wc := [(t, .inr (3, [.ref va, .ref re, .ref su, .int (iI u9.1), .int (iI u9.2.1)])), (re, .inl (g_I (x_G X), 2524, .inl (aI u9.2.2.2.1)))]) rfl [] rfl (Nat.le_of_ble_eq_true rfl) ⟨Nat.le_of_ble_eq_true rfl, Nat.le_of_ble_eq_true rfl⟩ dX6_left_13 (fun _ => [(sc, .inr (5, [.ref tx, .ref b, .ref so, .ref pr, .ref b2])), (b, .inr (0, [.ref t, .int (iI cm), .int (iI bd), .int (iI cm), .long (jL sk)])), (t, .inr (3, [.ref va, .ref re, .ref su, .int (iI u9.1), .int (iI u9.2.1)])), (va, .inl (g_I (x_G X), 631, .inl (aI u9.2.2.1))), (re, .inl (g_I (x_G X), 2524, .inl (aI u9.2.2.2.1))), (su, .inl (g_J (x_G X), 631, .inr (.inl (aL u9.2.2.2.2))))]) (Or.inl (fun _ => ⟨rfl, rfl⟩)) (fun u13 => [.int (iI u13)]) (fun _ => rfl) 1 6 ⟨rfl, rfl⟩ (fun u13 hu13 => ?_)
  exact k_iret C hR (u := (u13, cm, u9.1, u9.2.1, u9.2.2.1, u9.2.2.2.1, u9.2.2.2.2)) rfl (by (try dsimp only) <;> exact (⟨hu2.1, by rw [hu13, Tl_cntI hu9 hu2.1], hB⟩)) rfl (Nat.le_of_ble_eq_true rfl) (Nat.le_of_ble_eq_true rfl) dX6_left_16
theorem in_X6_sumLeft_X6 : ∀ w ∈ wsX60, w ∈ wsX6_sumLeft := by decide +kernel
set_option maxHeartbeats 4000000 in
set_option maxRecDepth 100000 in
theorem c_X6_sumLeft (l : Launch) (G : KG) (sc tx so pr b2 : Nat) (b t va re su : Nat) (tl tb ts bd cm sk : Int) (n k m : Nat) (fv fr fs : Nat → Int) (i : Int) (hS : BdS n k m bd cm sk) (hT : BdT n k m tl tb ts fv fr fs) (hi : -2147483648 ≤ i ∧ i < 2147483648) (hfl : l.stackTraces = false) : Cxt l G yX6_sumLeft wsX6_sumLeft (rmD 7 1 6) [.ref sc, .int (iI i)] [(sc, .inr (5, [.ref tx, .ref b, .ref so, .ref pr, .ref b2])), (b, .inr (0, [.ref t, .int (iI tl), .int (iI bd), .int (iI cm), .long (jL sk)])), (t, .inr (3, [.ref va, .ref re, .ref su, .int (iI tb), .int (iI ts)])), (va, .inl (g_I G, 631, .inl (aI fv))), (re, .inl (g_I G, 2524, .inl (aI fr))), (su, .inl (g_J G, 631, .inr (.inl (aL fs))))] (fun u : Int × Int × Int × Int × (Nat → Int) × (Nat → Int) × (Nat → Int) => (0 ≤ i ∧ i < (SZ n : Int)) ∧ u.1 = (sR m k (qv n i.toNat) : Int) ∧ BdT n k m u.2.1 u.2.2.1 u.2.2.2.1 u.2.2.2.2.1 u.2.2.2.2.2.1 u.2.2.2.2.2.2) (fun u : Int × Int × Int × Int × (Nat → Int) × (Nat → Int) × (Nat → Int) => some (.long (jL u.1))) (fun u : Int × Int × Int × Int × (Nat → Int) × (Nat → Int) × (Nat → Int) => [(sc, .inr (5, [.ref tx, .ref b, .ref so, .ref pr, .ref b2])), (b, .inr (0, [.ref t, .int (iI u.2.1), .int (iI bd), .int (iI cm), .long (jL sk)])), (t, .inr (3, [.ref va, .ref re, .ref su, .int (iI u.2.2.1), .int (iI u.2.2.2.1)])), (va, .inl (g_I G, 631, .inl (aI u.2.2.2.2.1))), (re, .inl (g_I G, 2524, .inl (aI u.2.2.2.2.2.1))), (su, .inl (g_J G, 631, .inr (.inl (aL u.2.2.2.2.2.2))))]) (fun v : Int × Int × Int × (Nat → Int) × (Nat → Int) × (Nat → Int) => ¬ (0 ≤ i ∧ i < (SZ n : Int)) ∧ BdT n k m v.1 v.2.1 v.2.2.1 v.2.2.2.1 v.2.2.2.2.1 v.2.2.2.2.2) (fun v : Int × Int × Int × (Nat → Int) × (Nat → Int) × (Nat → Int) => "java/lang/IndexOutOfBoundsException") (fun v : Int × Int × Int × (Nat → Int) × (Nat → Int) × (Nat → Int) => [(sc, .inr (5, [.ref tx, .ref b, .ref so, .ref pr, .ref b2])), (b, .inr (0, [.ref t, .int (iI v.1), .int (iI bd), .int (iI cm), .long (jL sk)])), (t, .inr (3, [.ref va, .ref re, .ref su, .int (iI v.2.1), .int (iI v.2.2.1)])), (va, .inl (g_I G, 631, .inl (aI v.2.2.2.1))), (re, .inl (g_I G, 2524, .inl (aI v.2.2.2.2.1))), (su, .inl (g_J G, 631, .inr (.inl (aL v.2.2.2.2.2))))]) := by
  refine Cxt.of (cc := cX6_sumLeft) (maxL := 2) (ret := (some .long)) (by decide +kernel) rfl (Nat.le_of_ble_eq_true rfl) ?_
  intro X C hG hL hnm hR hQ htab
  subst hG
  subst hL
  have C : Cx X cX6_sumLeft RX6 wsX6_sumLeft (some .long) 2 (rmD 7 1 6) := C
  have hTh : Thr X (fun v : Int × Int × Int × (Nat → Int) × (Nat → Int) × (Nat → Int) => ¬ (0 ≤ i ∧ i < (SZ n : Int)) ∧ BdT n k m v.1 v.2.1 v.2.2.1 v.2.2.2.1 v.2.2.2.2.1 v.2.2.2.2.2) (fun v : Int × Int × Int × (Nat → Int) × (Nat → Int) × (Nat → Int) => "java/lang/IndexOutOfBoundsException") (fun v : Int × Int × Int × (Nat → Int) × (Nat → Int) × (Nat → Int) => [(sc, .inr (5, [.ref tx, .ref b, .ref so, .ref pr, .ref b2])), (b, .inr (0, [.ref t, .int (iI v.1), .int (iI bd), .int (iI cm), .long (jL sk)])), (t, .inr (3, [.ref va, .ref re, .ref su, .int (iI v.2.1), .int (iI v.2.2.1)])), (va, .inl (g_I (x_G X), 631, .inl (aI v.2.2.2.1))), (re, .inl (g_I (x_G X), 2524, .inl (aI v.2.2.2.2.1))), (su, .inl (g_J (x_G X), 631, .inr (.inl (aL v.2.2.2.2.2))))]) := ⟨_, by rw [C.R]; exact hQ⟩
  obtain ⟨s1, s2, s3, s4, s5, s6, s7⟩ := id hS
  show K_ X 0 0 [(sc, .inr (5, [.ref tx, .ref b, .ref so, .ref pr, .ref b2])), (b, .inr (0, [.ref t, .int (iI tl), .int (iI bd), .int (iI cm), .long (jL sk)])), (t, .inr (3, [.ref va, .ref re, .ref su, .int (iI tb), .int (iI ts)])), (va, .inl (g_I (x_G X), 631, .inl (aI fv))), (re, .inl (g_I (x_G X), 2524, .inl (aI fr))), (su, .inl (g_J (x_G X), 631, .inr (.inl (aL fs))))] 0 [(0, .ref sc), (1, .int (iI i))] []
  refine k_aload_n C 0 rfl dX6_sumLeft_0 rfl ?_
  refine k_iload_n C 1 rfl dX6_sumLeft_1 rfl ?_
  refine k_callVx C hTh htab (y := yX6_checkQuotient) [.int (iI i)] 1 rfl (c_X6_checkQuotient (x_l X) (x_G X) sc tx so pr b2 b t va re su tl tb ts bd cm sk n k m fv fr fs i (by assumption) (by assumption) (by assumption) (hfl)) gX6_sumLeft_X6_checkQuotient rfl ⟨rfl, by decide +kernel, by decide +kernel, by decide +kernel⟩ ⟨by decide, by decide⟩ 0 (fs := [.ref tx, .ref b, .ref so, .ref pr, .ref b2]) rfl rfl rfl [0, 1, 2, 3, 4, 5] [] [0, 1, 2, 3, 4, 5] (by decide) (wc := [(sc, .inr (5, [.ref tx, .ref b, .ref so, .ref pr, .ref b2])), (b, .inr (0, [.ref t, .int (iI tl), .int (iI bd), .int (iI cm), .long (jL sk)])), (t, .inr (3, [.ref va, .ref re, .ref su, .int (iI tb), .int (iI ts)])), (va, .inl (g_I (x_G X), 631, .inl (aI fv))), (re, .inl (g_I (x_G X), 2524, .inl (aI fr))), (su, .inl (g_J (x_G X), 631, .inr (.inl (aL fs))))]) rfl [] rfl (Nat.le_of_ble_eq_true rfl) ⟨Nat.le_of_ble_eq_true rfl, Nat.le_of_ble_eq_true rfl⟩ dX6_sumLeft_2 (fun u2 => [(sc, .inr (5, [.ref tx, .ref b, .ref so, .ref pr, .ref b2])), (b, .inr (0, [.ref t, .int (iI u2.1), .int (iI bd), .int (iI cm), .long (jL sk)])), (t, .inr (3, [.ref va, .ref re, .ref su, .int (iI u2.2.1), .int (iI u2.2.2.1)])), (va, .inl (g_I (x_G X), 631, .inl (aI u2.2.2.2.1))), (re, .inl (g_I (x_G X), 2524, .inl (aI u2.2.2.2.2.1))), (su, .inl (g_J (x_G X), 631, .inr (.inl (aL u2.2.2.2.2.2))))]) (fun v => [(sc, .inr (5, [.ref tx, .ref b, .ref so, .ref pr, .ref b2])), (b, .inr (0, [.ref t, .int (iI v.1), .int (iI bd), .int (iI cm), .long (jL sk)])), (t, .inr (3, [.ref va, .ref re, .ref su, .int (iI v.2.1), .int (iI v.2.2.1)])), (va, .inl (g_I (x_G X), 631, .inl (aI v.2.2.2.1))), (re, .inl (g_I (x_G X), 2524, .inl (aI v.2.2.2.2.1))), (su, .inl (g_J (x_G X), 631, .inr (.inl (aL v.2.2.2.2.2))))]) (wr := []) rfl (by decide) (by decide) (by decide) (fun _ => rfl) (fun _ => rfl) (fun u2 => []) (fun _ => rfl) 1 6 ⟨rfl, rfl⟩ (fun v hv => ⟨v, rfl, hv, rfl⟩) (fun u2 hu2 => ?_)
  refine k_aload_n C 0 rfl dX6_sumLeft_5 rfl ?_
  refine k_get C (Cn := RX6) (T := TX6) (N := 5) (ci := 5) (ref := "StruckCounts") in_X6_sumLeft_X6 0 rfl rfl 1 (by decide) 1 rfl rfl (v := .ref b) rfl dX6_sumLeft_6 ?_
  refine k_callV C (y := yX0_tally) [] 0 rfl (c_X0_tally (x_l X) (x_G X) b t va re su u2.1 u2.2.1 u2.2.2.1 bd cm sk n k m u2.2.2.2.1 u2.2.2.2.2.1 u2.2.2.2.2.2 (by first | assumption | omega) (hu2.2)) gX6_sumLeft_X0_tally rfl ⟨rfl, by decide +kernel, by decide +kernel, by decide +kernel⟩ ⟨by decide, by decide⟩ 1 (fs := [.ref t, .int (iI u2.1), .int (iI bd), .int (iI cm), .long (jL sk)]) rfl rfl rfl [1, 2, 3, 4, 5] (by decide) (wc := [(b, .inr (0, [.ref t, .int (iI u2.1), .int (iI bd), .int (iI cm), .long (jL sk)])), (t, .inr (3, [.ref va, .ref re, .ref su, .int (iI u2.2.1), .int (iI u2.2.2.1)])), (va, .inl (g_I (x_G X), 631, .inl (aI u2.2.2.2.1))), (re, .inl (g_I (x_G X), 2524, .inl (aI u2.2.2.2.2.1))), (su, .inl (g_J (x_G X), 631, .inr (.inl (aL u2.2.2.2.2.2))))]) rfl [] rfl (Nat.le_of_ble_eq_true rfl) ⟨Nat.le_of_ble_eq_true rfl, Nat.le_of_ble_eq_true rfl⟩ dX6_sumLeft_9 (fun u9 => [(sc, .inr (5, [.ref tx, .ref b, .ref so, .ref pr, .ref b2])), (b, .inr (0, [.ref t, .int (iI cm), .int (iI bd), .int (iI cm), .long (jL sk)])), (t, .inr (3, [.ref va, .ref re, .ref su, .int (iI u9.1), .int (iI u9.2.1)])), (va, .inl (g_I (x_G X), 631, .inl (aI u9.2.2.1))), (re, .inl (g_I (x_G X), 2524, .inl (aI u9.2.2.2.1))), (su, .inl (g_J (x_G X), 631, .inr (.inl (aL u9.2.2.2.2))))]) (Or.inr ⟨[0], [0, 1, 2, 3, 4, 5], [(sc, .inr (5, [.ref tx, .ref b, .ref so, .ref pr, .ref b2]))], rfl, by decide, by decide, by decide, fun _ => rfl⟩) (fun u9 => [.ref t]) (fun _ => rfl) 1 6 ⟨rfl, rfl⟩ (fun u9 hu9 => ?_)
  have hB := Tl_up hS hu9
  have hz := hu9.2.1
  have hz2 := SZ_631 s5
  refine k_iload_n C 1 rfl dX6_sumLeft_12 rfl ?_
  refine k_callV C (y := yX3_sumAt) [.int (iI i)] 1 rfl (c_X3_sumAt (x_l X) (x_G X) t va re su u9.1 u9.2.1 i u9.2.2.2.2 (by omega) (by omega)) gX6_sumLeft_X3_sumAt rfl ⟨rfl, by decide +kernel, by decide +kernel, by decide +kernel⟩ ⟨by decide, by decide⟩ 2 (fs := [.ref va, .ref re, .ref su, .int (iI u9.1), .int (iI u9.2.1)]) rfl rfl rfl [2, 5] (by decide) (wc := [(t, .inr (3, [.ref va, .ref re, .ref su, .int (iI u9.1), .int (iI u9.2.1)])), (su, .inl (g_J (x_G X), 631, .inr (.inl (aL u9.2.2.2.2))))]) rfl [] rfl (Nat.le_of_ble_eq_true rfl) ⟨Nat.le_of_ble_eq_true rfl, Nat.le_of_ble_eq_true rfl⟩ dX6_sumLeft_13 (fun _ => [(sc, .inr (5, [.ref tx, .ref b, .ref so, .ref pr, .ref b2])), (b, .inr (0, [.ref t, .int (iI cm), .int (iI bd), .int (iI cm), .long (jL sk)])), (t, .inr (3, [.ref va, .ref re, .ref su, .int (iI u9.1), .int (iI u9.2.1)])), (va, .inl (g_I (x_G X), 631, .inl (aI u9.2.2.1))), (re, .inl (g_I (x_G X), 2524, .inl (aI u9.2.2.2.1))), (su, .inl (g_J (x_G X), 631, .inr (.inl (aL u9.2.2.2.2))))]) (Or.inl (fun _ => ⟨rfl, rfl⟩)) (fun u13 => [.long (jL u13)]) (fun _ => rfl) 1 6 ⟨rfl, rfl⟩ (fun u13 hu13 => ?_)
  exact k_lret C hR (u := (u13, cm, u9.1, u9.2.1, u9.2.2.1, u9.2.2.2.1, u9.2.2.2.2)) rfl (by (try dsimp only) <;> exact (⟨hu2.1, by rw [hu13, Tl_sA hu9 (by have := hu2.1; omega)], hB⟩)) rfl (Nat.le_of_ble_eq_true rfl) (Nat.le_of_ble_eq_true rfl) dX6_sumLeft_16
theorem in_X6_quotientOf_X6 : ∀ w ∈ wsX60, w ∈ wsX6_quotientOf := by decide +kernel
set_option maxHeartbeats 4000000 in
set_option maxRecDepth 100000 in
theorem c_X6_quotientOf (l : Launch) (G : KG) (sc tx so pr b2 : Nat) (b t va re su : Nat) (tl tb ts bd cm sk : Int) (n k m : Nat) (fv fr fs : Nat → Int) (v : Int) (hS : BdS n k m bd cm sk) (hT : BdT n k m tl tb ts fv fr fs) (hv : -2147483648 ≤ v ∧ v < 2147483648) : Ct l G yX6_quotientOf wsX6_quotientOf (rmD 5 0 0) [.ref sc, .int (iI v)] [(sc, .inr (5, [.ref tx, .ref b, .ref so, .ref pr, .ref b2])), (b, .inr (0, [.ref t, .int (iI tl), .int (iI bd), .int (iI cm), .long (jL sk)])), (t, .inr (3, [.ref va, .ref re, .ref su, .int (iI tb), .int (iI ts)])), (va, .inl (g_I G, 631, .inl (aI fv))), (re, .inl (g_I G, 2524, .inl (aI fr))), (su, .inl (g_J G, 631, .inr (.inl (aL fs))))] (fun u : Int × Int × Int × Int × (Nat → Int) × (Nat → Int) × (Nat → Int) => u.1 = pI n v ∧ BdT n k m u.2.1 u.2.2.1 u.2.2.2.1 u.2.2.2.2.1 u.2.2.2.2.2.1 u.2.2.2.2.2.2) (fun u : Int × Int × Int × Int × (Nat → Int) × (Nat → Int) × (Nat → Int) => some (.int (iI u.1))) (fun u : Int × Int × Int × Int × (Nat → Int) × (Nat → Int) × (Nat → Int) => [(sc, .inr (5, [.ref tx, .ref b, .ref so, .ref pr, .ref b2])), (b, .inr (0, [.ref t, .int (iI u.2.1), .int (iI bd), .int (iI cm), .long (jL sk)])), (t, .inr (3, [.ref va, .ref re, .ref su, .int (iI u.2.2.1), .int (iI u.2.2.2.1)])), (va, .inl (g_I G, 631, .inl (aI u.2.2.2.2.1))), (re, .inl (g_I G, 2524, .inl (aI u.2.2.2.2.2.1))), (su, .inl (g_J G, 631, .inr (.inl (aL u.2.2.2.2.2.2))))]) := by
  refine Ct.of (cc := cX6_quotientOf) (maxL := 2) (ret := (some .int)) (by decide +kernel) rfl (Nat.le_of_ble_eq_true rfl) ?_
  intro X C hG hL hnm hR
  subst hG
  subst hL
  have C : Cx X cX6_quotientOf RX6 wsX6_quotientOf (some .int) 2 (rmD 5 0 0) := C
  obtain ⟨s1, s2, s3, s4, s5, s6, s7⟩ := id hS
  show K_ X 0 0 [(sc, .inr (5, [.ref tx, .ref b, .ref so, .ref pr, .ref b2])), (b, .inr (0, [.ref t, .int (iI tl), .int (iI bd), .int (iI cm), .long (jL sk)])), (t, .inr (3, [.ref va, .ref re, .ref su, .int (iI tb), .int (iI ts)])), (va, .inl (g_I (x_G X), 631, .inl (aI fv))), (re, .inl (g_I (x_G X), 2524, .inl (aI fr))), (su, .inl (g_J (x_G X), 631, .inr (.inl (aL fs))))] 0 [(0, .ref sc), (1, .int (iI v))] []
  refine k_aload_n C 0 rfl dX6_quotientOf_0 rfl ?_
  refine k_get C (Cn := RX6) (T := TX6) (N := 5) (ci := 5) (ref := "StruckCounts") in_X6_quotientOf_X6 0 rfl rfl 1 (by decide) 1 rfl rfl (v := .ref b) rfl dX6_quotientOf_1 ?_
  refine k_callV C (y := yX0_tally) [] 0 rfl (c_X0_tally (x_l X) (x_G X) b t va re su tl tb ts bd cm sk n k m fv fr fs (by first | assumption | omega) (by first | assumption | omega)) gX6_quotientOf_X0_tally rfl ⟨rfl, by decide +kernel, by decide +kernel, by decide +kernel⟩ ⟨by decide, by decide⟩ 1 (fs := [.ref t, .int (iI tl), .int (iI bd), .int (iI cm), .long (jL sk)]) rfl rfl rfl [1, 2, 3, 4, 5] (by decide) (wc := [(b, .inr (0, [.ref t, .int (iI tl), .int (iI bd), .int (iI cm), .long (jL sk)])), (t, .inr (3, [.ref va, .ref re, .ref su, .int (iI tb), .int (iI ts)])), (va, .inl (g_I (x_G X), 631, .inl (aI fv))), (re, .inl (g_I (x_G X), 2524, .inl (aI fr))), (su, .inl (g_J (x_G X), 631, .inr (.inl (aL fs))))]) rfl [] rfl (Nat.le_of_ble_eq_true rfl) ⟨Nat.le_of_ble_eq_true rfl, Nat.le_of_ble_eq_true rfl⟩ dX6_quotientOf_4 (fun u4 => [(sc, .inr (5, [.ref tx, .ref b, .ref so, .ref pr, .ref b2])), (b, .inr (0, [.ref t, .int (iI cm), .int (iI bd), .int (iI cm), .long (jL sk)])), (t, .inr (3, [.ref va, .ref re, .ref su, .int (iI u4.1), .int (iI u4.2.1)])), (va, .inl (g_I (x_G X), 631, .inl (aI u4.2.2.1))), (re, .inl (g_I (x_G X), 2524, .inl (aI u4.2.2.2.1))), (su, .inl (g_J (x_G X), 631, .inr (.inl (aL u4.2.2.2.2))))]) (Or.inr ⟨[0], [0, 1, 2, 3, 4, 5], [(sc, .inr (5, [.ref tx, .ref b, .ref so, .ref pr, .ref b2]))], rfl, by decide, by decide, by decide, fun _ => rfl⟩) (fun u4 => [.ref t]) (fun _ => rfl) 0 0 ⟨rfl, rfl⟩ (fun u4 hu4 => ?_)
  have hB := Tl_up hS hu4
  have hz := hu4.2.1
  have hz1 := hu4.1
  have hz2 := SZ_631 s5
  refine k_iload_n C 1 rfl dX6_quotientOf_7 rfl ?_
  refine k_callV C (y := yX3_placeOf) [.int (iI v)] 1 rfl (c_X3_placeOf (x_l X) (x_G X) t va re su u4.1 u4.2.1 n v (by first | assumption | omega) (by first | assumption | omega) (by first | assumption | omega) (by first | assumption | omega)) gX6_quotientOf_X3_placeOf rfl ⟨rfl, by decide +kernel, by decide +kernel, by decide +kernel⟩ ⟨by decide, by decide⟩ 2 (fs := [.ref va, .ref re, .ref su, .int (iI u4.1), .int (iI u4.2.1)]) rfl rfl rfl [2] (by decide) (wc := [(t, .inr (3, [.ref va, .ref re, .ref su, .int (iI u4.1), .int (iI u4.2.1)]))]) rfl [] rfl (Nat.le_of_ble_eq_true rfl) ⟨Nat.le_of_ble_eq_true rfl, Nat.le_of_ble_eq_true rfl⟩ dX6_quotientOf_8 (fun _ => [(sc, .inr (5, [.ref tx, .ref b, .ref so, .ref pr, .ref b2])), (b, .inr (0, [.ref t, .int (iI cm), .int (iI bd), .int (iI cm), .long (jL sk)])), (t, .inr (3, [.ref va, .ref re, .ref su, .int (iI u4.1), .int (iI u4.2.1)])), (va, .inl (g_I (x_G X), 631, .inl (aI u4.2.2.1))), (re, .inl (g_I (x_G X), 2524, .inl (aI u4.2.2.2.1))), (su, .inl (g_J (x_G X), 631, .inr (.inl (aL u4.2.2.2.2))))]) (Or.inl (fun _ => ⟨rfl, rfl⟩)) (fun u8 => [.int (iI u8)]) (fun _ => rfl) 0 0 ⟨rfl, rfl⟩ (fun u8 hu8 => ?_)
  exact k_iret C hR (u := (u8, cm, u4.1, u4.2.1, u4.2.2.1, u4.2.2.2.1, u4.2.2.2.2)) rfl (by (try dsimp only) <;> exact (⟨hu8, hB⟩)) rfl (Nat.le_of_ble_eq_true rfl) (Nat.le_of_ble_eq_true rfl) dX6_quotientOf_11
theorem in_X6_restLeft_X6 : ∀ w ∈ wsX60, w ∈ wsX6_restLeft := by decide +kernel
set_option maxHeartbeats 4000000 in
set_option maxRecDepth 100000 in
theorem c_X6_restLeft (l : Launch) (G : KG) (sc tx so pr b2 : Nat) (b t va re su : Nat) (tl tb ts bd cm sk : Int) (n k m : Nat) (fv fr fs : Nat → Int) (i r : Int) (hS : BdS n k m bd cm sk) (hT : BdT n k m tl tb ts fv fr fs) (hi : -2147483648 ≤ i ∧ i < 2147483648) (hr : -2147483648 ≤ r ∧ r < 2147483648) (hfl : l.stackTraces = false) : Cxt l G yX6_restLeft wsX6_restLeft (rmD 7 2 12) [.ref sc, .int (iI i), .int (iI r)] [(sc, .inr (5, [.ref tx, .ref b, .ref so, .ref pr, .ref b2])), (b, .inr (0, [.ref t, .int (iI tl), .int (iI bd), .int (iI cm), .long (jL sk)])), (t, .inr (3, [.ref va, .ref re, .ref su, .int (iI tb), .int (iI ts)])), (va, .inl (g_I G, 631, .inl (aI fv))), (re, .inl (g_I G, 2524, .inl (aI fr))), (su, .inl (g_J G, 631, .inr (.inl (aL fs))))] (fun u : Int × Int × Int × Int × (Nat → Int) × (Nat → Int) × (Nat → Int) => (0 ≤ i ∧ i < (SZ n : Int)) ∧ (0 ≤ r ∧ r ≤ 3) ∧ u.1 = (cR m k r.toNat (qv n i.toNat) : Int) ∧ BdT n k m u.2.1 u.2.2.1 u.2.2.2.1 u.2.2.2.2.1 u.2.2.2.2.2.1 u.2.2.2.2.2.2) (fun u : Int × Int × Int × Int × (Nat → Int) × (Nat → Int) × (Nat → Int) => some (.int (iI u.1))) (fun u : Int × Int × Int × Int × (Nat → Int) × (Nat → Int) × (Nat → Int) => [(sc, .inr (5, [.ref tx, .ref b, .ref so, .ref pr, .ref b2])), (b, .inr (0, [.ref t, .int (iI u.2.1), .int (iI bd), .int (iI cm), .long (jL sk)])), (t, .inr (3, [.ref va, .ref re, .ref su, .int (iI u.2.2.1), .int (iI u.2.2.2.1)])), (va, .inl (g_I G, 631, .inl (aI u.2.2.2.2.1))), (re, .inl (g_I G, 2524, .inl (aI u.2.2.2.2.2.1))), (su, .inl (g_J G, 631, .inr (.inl (aL u.2.2.2.2.2.2))))]) (fun v : Nat × Int × Int × Int × (Nat → Int) × (Nat → Int) × (Nat → Int) => ((v.1 = 0 ∧ ¬ (0 ≤ i ∧ i < (SZ n : Int))) ∨ (v.1 = 1 ∧ (0 ≤ i ∧ i < (SZ n : Int)) ∧ ¬ (0 ≤ r ∧ r ≤ 3))) ∧ BdT n k m v.2.1 v.2.2.1 v.2.2.2.1 v.2.2.2.2.1 v.2.2.2.2.2.1 v.2.2.2.2.2.2) (fun v : Nat × Int × Int × Int × (Nat → Int) × (Nat → Int) × (Nat → Int) => if v.1 = 0 then "java/lang/IndexOutOfBoundsException" else "java/lang/IllegalArgumentException") (fun v : Nat × Int × Int × Int × (Nat → Int) × (Nat → Int) × (Nat → Int) => [(sc, .inr (5, [.ref tx, .ref b, .ref so, .ref pr, .ref b2])), (b, .inr (0, [.ref t, .int (iI v.2.1), .int (iI bd), .int (iI cm), .long (jL sk)])), (t, .inr (3, [.ref va, .ref re, .ref su, .int (iI v.2.2.1), .int (iI v.2.2.2.1)])), (va, .inl (g_I G, 631, .inl (aI v.2.2.2.2.1))), (re, .inl (g_I G, 2524, .inl (aI v.2.2.2.2.2.1))), (su, .inl (g_J G, 631, .inr (.inl (aL v.2.2.2.2.2.2))))]) := by
  refine Cxt.of (cc := cX6_restLeft) (maxL := 3) (ret := (some .int)) (by decide +kernel) rfl (Nat.le_of_ble_eq_true rfl) ?_
  intro X C hG hL hnm hR hQ htab
  subst hG
  subst hL
  have C : Cx X cX6_restLeft RX6 wsX6_restLeft (some .int) 3 (rmD 7 2 12) := C
  have hTh : Thr X (fun v : Nat × Int × Int × Int × (Nat → Int) × (Nat → Int) × (Nat → Int) => ((v.1 = 0 ∧ ¬ (0 ≤ i ∧ i < (SZ n : Int))) ∨ (v.1 = 1 ∧ (0 ≤ i ∧ i < (SZ n : Int)) ∧ ¬ (0 ≤ r ∧ r ≤ 3))) ∧ BdT n k m v.2.1 v.2.2.1 v.2.2.2.1 v.2.2.2.2.1 v.2.2.2.2.2.1 v.2.2.2.2.2.2) (fun v : Nat × Int × Int × Int × (Nat → Int) × (Nat → Int) × (Nat → Int) => if v.1 = 0 then "java/lang/IndexOutOfBoundsException" else "java/lang/IllegalArgumentException") (fun v : Nat × Int × Int × Int × (Nat → Int) × (Nat → Int) × (Nat → Int) => [(sc, .inr (5, [.ref tx, .ref b, .ref so, .ref pr, .ref b2])), (b, .inr (0, [.ref t, .int (iI v.2.1), .int (iI bd), .int (iI cm), .long (jL sk)])), (t, .inr (3, [.ref va, .ref re, .ref su, .int (iI v.2.2.1), .int (iI v.2.2.2.1)])), (va, .inl (g_I (x_G X), 631, .inl (aI v.2.2.2.2.1))), (re, .inl (g_I (x_G X), 2524, .inl (aI v.2.2.2.2.2.1))), (su, .inl (g_J (x_G X), 631, .inr (.inl (aL v.2.2.2.2.2.2))))]) := ⟨_, by rw [C.R]; exact hQ⟩
  obtain ⟨s1, s2, s3, s4, s5, s6, s7⟩ := id hS
  show K_ X 0 0 [(sc, .inr (5, [.ref tx, .ref b, .ref so, .ref pr, .ref b2])), (b, .inr (0, [.ref t, .int (iI tl), .int (iI bd), .int (iI cm), .long (jL sk)])), (t, .inr (3, [.ref va, .ref re, .ref su, .int (iI tb), .int (iI ts)])), (va, .inl (g_I (x_G X), 631, .inl (aI fv))), (re, .inl (g_I (x_G X), 2524, .inl (aI fr))), (su, .inl (g_J (x_G X), 631, .inr (.inl (aL fs))))] 0 [(0, .ref sc), (1, .int (iI i)), (2, .int (iI r))] []
  refine k_aload_n C 0 rfl dX6_restLeft_0 rfl ?_
  refine k_iload_n C 1 rfl dX6_restLeft_1 rfl ?_
  refine k_callVx C hTh htab (y := yX6_checkQuotient) [.int (iI i)] 1 rfl (c_X6_checkQuotient (x_l X) (x_G X) sc tx so pr b2 b t va re su tl tb ts bd cm sk n k m fv fr fs i (by assumption) (by assumption) (by assumption) (hfl)) gX6_restLeft_X6_checkQuotient rfl ⟨rfl, by decide +kernel, by decide +kernel, by decide +kernel⟩ ⟨by decide, by decide⟩ 0 (fs := [.ref tx, .ref b, .ref so, .ref pr, .ref b2]) rfl rfl rfl [0, 1, 2, 3, 4, 5] [] [0, 1, 2, 3, 4, 5] (by decide) (wc := [(sc, .inr (5, [.ref tx, .ref b, .ref so, .ref pr, .ref b2])), (b, .inr (0, [.ref t, .int (iI tl), .int (iI bd), .int (iI cm), .long (jL sk)])), (t, .inr (3, [.ref va, .ref re, .ref su, .int (iI tb), .int (iI ts)])), (va, .inl (g_I (x_G X), 631, .inl (aI fv))), (re, .inl (g_I (x_G X), 2524, .inl (aI fr))), (su, .inl (g_J (x_G X), 631, .inr (.inl (aL fs))))]) rfl [] rfl (Nat.le_of_ble_eq_true rfl) ⟨Nat.le_of_ble_eq_true rfl, Nat.le_of_ble_eq_true rfl⟩ dX6_restLeft_2 (fun u2 => [(sc, .inr (5, [.ref tx, .ref b, .ref so, .ref pr, .ref b2])), (b, .inr (0, [.ref t, .int (iI u2.1), .int (iI bd), .int (iI cm), .long (jL sk)])), (t, .inr (3, [.ref va, .ref re, .ref su, .int (iI u2.2.1), .int (iI u2.2.2.1)])), (va, .inl (g_I (x_G X), 631, .inl (aI u2.2.2.2.1))), (re, .inl (g_I (x_G X), 2524, .inl (aI u2.2.2.2.2.1))), (su, .inl (g_J (x_G X), 631, .inr (.inl (aL u2.2.2.2.2.2))))]) (fun v => [(sc, .inr (5, [.ref tx, .ref b, .ref so, .ref pr, .ref b2])), (b, .inr (0, [.ref t, .int (iI v.1), .int (iI bd), .int (iI cm), .long (jL sk)])), (t, .inr (3, [.ref va, .ref re, .ref su, .int (iI v.2.1), .int (iI v.2.2.1)])), (va, .inl (g_I (x_G X), 631, .inl (aI v.2.2.2.1))), (re, .inl (g_I (x_G X), 2524, .inl (aI v.2.2.2.2.1))), (su, .inl (g_J (x_G X), 631, .inr (.inl (aL v.2.2.2.2.2))))]) (wr := []) rfl (by decide) (by decide) (by decide) (fun _ => rfl) (fun _ => rfl) (fun u2 => []) (fun _ => rfl) 1 6 ⟨rfl, rfl⟩ (fun v hv => ⟨(0, v), rfl, ⟨Or.inl ⟨rfl, hv.1⟩, hv.2⟩, rfl⟩) (fun u2 hu2 => ?_)
  refine k_iload_n C 2 rfl dX6_restLeft_5 rfl ?_
  refine k_iconst C dX6_restLeft_6 ?_
  refine k_iconst C dX6_restLeft_7 ?_
  refine k_callS C (y := yX6_outside) [.int (iI r), .int (iI 0), .int (iI 3)] 3 rfl (c_X6_outside (x_l X) (x_G X) r 0 3 (by omega) (by omega) (by omega)) gX6_restLeft_X6_outside rfl ⟨by decide +kernel, by decide +kernel, by decide +kernel⟩ ⟨by decide, by decide⟩ [] (by decide) (wc := []) rfl [] rfl (Nat.le_of_ble_eq_true rfl) ⟨Nat.le_of_ble_eq_true rfl, Nat.le_of_ble_eq_true rfl⟩ dX6_restLeft_8 (fun _ => [(sc, .inr (5, [.ref tx, .ref b, .ref so, .ref pr, .ref b2])), (b, .inr (0, [.ref t, .int (iI u2.1), .int (iI bd), .int (iI cm), .long (jL sk)])), (t, .inr (3, [.ref va, .ref re, .ref su, .int (iI u2.2.1), .int (iI u2.2.2.1)])), (va, .inl (g_I (x_G X), 631, .inl (aI u2.2.2.2.1))), (re, .inl (g_I (x_G X), 2524, .inl (aI u2.2.2.2.2.1))), (su, .inl (g_J (x_G X), 631, .inr (.inl (aL u2.2.2.2.2.2))))]) (Or.inl (fun _ => ⟨rfl, rfl⟩)) (fun u8 => [.int (iI u8)]) (fun _ => rfl) 1 6 ⟨rfl, rfl⟩ (fun u8 hu8 => ?_)
  refine k_if_eq C 24 (⟨by omega, by omega⟩) dX6_restLeft_11 (by decide) (fun c11 => ?_) (fun c11 => ?_)
  · skip
    have hu8 := bo_f hu8 c11
    refine k_aload_n C 0 rfl dX6_restLeft_24 rfl ?_
    refine k_get C (Cn := RX6) (T := TX6) (N := 5) (ci := 5) (ref := "StruckCounts") in_X6_restLeft_X6 0 rfl rfl 1 (by decide) 3 rfl rfl (v := .ref b) rfl dX6_restLeft_25 ?_
    refine k_callV C (y := yX0_tally) [] 0 rfl (c_X0_tally (x_l X) (x_G X) b t va re su u2.1 u2.2.1 u2.2.2.1 bd cm sk n k m u2.2.2.2.1 u2.2.2.2.2.1 u2.2.2.2.2.2 (by first | assumption | omega) (hu2.2)) gX6_restLeft_X0_tally rfl ⟨rfl, by decide +kernel, by decide +kernel, by decide +kernel⟩ ⟨by decide, by decide⟩ 1 (fs := [.ref t, .int (iI u2.1), .int (iI bd), .int (iI cm), .long (jL sk)]) rfl rfl rfl [1, 2, 3, 4, 5] (by decide) (wc := [(b, .inr (0, [.ref t, .int (iI u2.1), .int (iI bd), .int (iI cm), .long (jL sk)])), (t, .inr (3, [.ref va, .ref re, .ref su, .int (iI u2.2.1), .int (iI u2.2.2.1)])), (va, .inl (g_I (x_G X), 631, .inl (aI u2.2.2.2.1))), (re, .inl (g_I (x_G X), 2524, .inl (aI u2.2.2.2.2.1))), (su, .inl (g_J (x_G X), 631, .inr (.inl (aL u2.2.2.2.2.2))))]) rfl [] rfl (Nat.le_of_ble_eq_true rfl) ⟨Nat.le_of_ble_eq_true rfl, Nat.le_of_ble_eq_true rfl⟩ dX6_restLeft_28 (fun u28 => [(sc, .inr (5, [.ref tx, .ref b, .ref so, .ref pr, .ref b2])), (b, .inr (0, [.ref t, .int (iI cm), .int (iI bd), .int (iI cm), .long (jL sk)])), (t, .inr (3, [.ref va, .ref re, .ref su, .int (iI u28.1), .int (iI u28.2.1)])), (va, .inl (g_I (x_G X), 631, .inl (aI u28.2.2.1))), (re, .inl (g_I (x_G X), 2524, .inl (aI u28.2.2.2.1))), (su, .inl (g_J (x_G X), 631, .inr (.inl (aL u28.2.2.2.2))))]) (Or.inr ⟨[0], [0, 1, 2, 3, 4, 5], [(sc, .inr (5, [.ref tx, .ref b, .ref so, .ref pr, .ref b2]))], rfl, by decide, by decide, by decide, fun _ => rfl⟩) (fun u28 => [.ref t]) (fun _ => rfl) 1 6 ⟨rfl, rfl⟩ (fun u28 hu28 => ?_)
    have hB := Tl_up hS hu28
    have hz := hu28.2.1
    have hz2 := SZ_631 s5
    refine k_iload_n C 1 rfl dX6_restLeft_31 rfl ?_
    refine k_iload_n C 2 rfl dX6_restLeft_32 rfl ?_
    refine k_callV C (y := yX3_restAt) [.int (iI i), .int (iI r)] 2 rfl (c_X3_restAt (x_l X) (x_G X) t va re su u28.1 u28.2.1 i r u28.2.2.2.1 (by omega) (by omega) (by omega)) gX6_restLeft_X3_restAt rfl ⟨rfl, by decide +kernel, by decide +kernel, by decide +kernel⟩ ⟨by decide, by decide⟩ 2 (fs := [.ref va, .ref re, .ref su, .int (iI u28.1), .int (iI u28.2.1)]) rfl rfl rfl [2, 4] (by decide) (wc := [(t, .inr (3, [.ref va, .ref re, .ref su, .int (iI u28.1), .int (iI u28.2.1)])), (re, .inl (g_I (x_G X), 2524, .inl (aI u28.2.2.2.1)))]) rfl [] rfl (Nat.le_of_ble_eq_true rfl) ⟨Nat.le_of_ble_eq_true rfl, Nat.le_of_ble_eq_true rfl⟩ dX6_restLeft_33 (fun _ => [(sc, .inr (5, [.ref tx, .ref b, .ref so, .ref pr, .ref b2])), (b, .inr (0, [.ref t, .int (iI cm), .int (iI bd), .int (iI cm), .long (jL sk)])), (t, .inr (3, [.ref va, .ref re, .ref su, .int (iI u28.1), .int (iI u28.2.1)])), (va, .inl (g_I (x_G X), 631, .inl (aI u28.2.2.1))), (re, .inl (g_I (x_G X), 2524, .inl (aI u28.2.2.2.1))), (su, .inl (g_J (x_G X), 631, .inr (.inl (aL u28.2.2.2.2))))]) (Or.inl (fun _ => ⟨rfl, rfl⟩)) (fun u33 => [.int (iI u33)]) (fun _ => rfl) 1 6 ⟨rfl, rfl⟩ (fun u33 hu33 => ?_)
    exact k_iret C hR (u := (u33, cm, u28.1, u28.2.1, u28.2.2.1, u28.2.2.2.1, u28.2.2.2.2)) rfl (by (try dsimp only) <;> exact (⟨hu2.1, by omega, by rw [hu33, Tl_rAI hu28 hu2.1 (by omega)], hB⟩)) rfl (Nat.le_of_ble_eq_true rfl) (Nat.le_of_ble_eq_true rfl) dX6_restLeft_36
  · skip
    have hu8 := bo_t hu8 c11
    exact k_throw C hTh htab hfl rfl 6 rfl 0 rfl 1 2 rfl rfl (by decide +kernel) (by decide +kernel) (by decide +kernel) (by decide +kernel) (by decide +kernel) dX6_restLeft_14 dX6_restLeft_17 dX6_restLeft_18 dX6_restLeft_20 dX6_restLeft_23 (Nat.le_of_ble_eq_true rfl) (Nat.le_of_ble_eq_true rfl) (Nat.le_of_ble_eq_true rfl) (Nat.le_of_ble_eq_true rfl) (1, u2.1, u2.2.1, u2.2.2.1, u2.2.2.2.1, u2.2.2.2.2.1, u2.2.2.2.2.2) rfl (by (try dsimp only) <;> exact (⟨Or.inr ⟨rfl, hu2.1, by omega⟩, hu2.2⟩)) rfl
theorem in_X6_came_X6 : ∀ w ∈ wsX60, w ∈ wsX6_came := by decide +kernel
theorem in_X6_came_X0 : ∀ w ∈ wsX00, w ∈ wsX6_came := by decide +kernel
set_option maxHeartbeats 4000000 in
set_option maxRecDepth 100000 in
theorem c_X6_came (l : Launch) (G : KG) (sc tx so pr b2 : Nat) (b t : Nat) (tl bd cm sk j : Int) (n k m : Nat) (hS : BdS n k m bd cm sk) (hj : -2147483648 ≤ j ∧ j < 2147483648) (hfl : l.stackTraces = false) : Cxt l G yX6_came wsX6_came (rmD 6 1 6) [.ref sc, .int (iI j)] [(sc, .inr (5, [.ref tx, .ref b, .ref so, .ref pr, .ref b2])), (b, .inr (0, [.ref t, .int (iI tl), .int (iI bd), .int (iI cm), .long (jL sk)]))] (fun u : Int => 0 ≤ j ∧ u = cmI k m j) (fun u : Int => some (.int (iI u))) (fun u : Int => [(sc, .inr (5, [.ref tx, .ref b, .ref so, .ref pr, .ref b2])), (b, .inr (0, [.ref t, .int (iI tl), .int (iI bd), .int (iI cm), .long (jL sk)]))]) (fun v : Unit => ¬ 0 ≤ j) (fun v : Unit => "java/lang/IllegalArgumentException") (fun v : Unit => [(sc, .inr (5, [.ref tx, .ref b, .ref so, .ref pr, .ref b2])), (b, .inr (0, [.ref t, .int (iI tl), .int (iI bd), .int (iI cm), .long (jL sk)]))]) := by
  refine Cxt.of (cc := cX6_came) (maxL := 3) (ret := (some .int)) (by decide +kernel) rfl (Nat.le_of_ble_eq_true rfl) ?_
  intro X C hG hL hnm hR hQ htab
  subst hG
  subst hL
  have C : Cx X cX6_came RX6 wsX6_came (some .int) 3 (rmD 6 1 6) := C
  have hTh : Thr X (fun v : Unit => ¬ 0 ≤ j) (fun v : Unit => "java/lang/IllegalArgumentException") (fun v : Unit => [(sc, .inr (5, [.ref tx, .ref b, .ref so, .ref pr, .ref b2])), (b, .inr (0, [.ref t, .int (iI tl), .int (iI bd), .int (iI cm), .long (jL sk)]))]) := ⟨_, by rw [C.R]; exact hQ⟩
  obtain ⟨s1, s2, s3, s4, s5, s6, s7⟩ := id hS
  have hm64 := m_lt s7 s6
  show K_ X 0 0 [(sc, .inr (5, [.ref tx, .ref b, .ref so, .ref pr, .ref b2])), (b, .inr (0, [.ref t, .int (iI tl), .int (iI bd), .int (iI cm), .long (jL sk)]))] 0 [(0, .ref sc), (1, .int (iI j))] []
  refine k_iload_n C 1 rfl dX6_came_0 rfl ?_
  refine k_if_ge C 14 (⟨by omega, by omega⟩) dX6_came_1 (by decide) (fun c1 => ?_) (fun c1 => ?_)
  · skip
    refine k_iload_n C 1 rfl dX6_came_14 rfl ?_
    refine k_aload_n C 0 rfl dX6_came_15 rfl ?_
    refine k_get C (Cn := RX6) (T := TX6) (N := 5) (ci := 5) (ref := "StruckCounts") in_X6_came_X6 0 rfl rfl 1 (by decide) 3 rfl rfl (v := .ref b) rfl dX6_came_16 ?_
    refine k_getN C (Cn := RX0) (T := TX0) (N := 5) (ci := 0) (ref := "StruckCounts$Board") in_X6_came_X0 1 rfl rfl 3 (by decide) 3 rfl rfl (v := .int (iI cm)) rfl dX6_came_19 ?_
    refine k_icmp_lt C 27 (⟨by omega, by omega⟩) (⟨by omega, by omega⟩) dX6_came_22 (by decide) (fun c22 => ?_) (fun c22 => ?_)
    · skip
      refine k_aload_n C 0 rfl dX6_came_27 rfl ?_
      refine k_get C (Cn := RX6) (T := TX6) (N := 5) (ci := 5) (ref := "StruckCounts") in_X6_came_X6 0 rfl rfl 1 (by decide) 3 rfl rfl (v := .ref b) rfl dX6_came_28 ?_
      refine k_iload_n C 1 rfl dX6_came_31 rfl ?_
      refine k_callV C (y := yX0_primeAt) [.int (iI j)] 1 rfl (c_X0_primeAt (x_l X) (x_G X) b t tl bd cm sk j (by omega)) gX6_came_X0_primeAt rfl ⟨rfl, by decide +kernel, by decide +kernel, by decide +kernel⟩ ⟨by decide, by decide⟩ 1 (fs := [.ref t, .int (iI tl), .int (iI bd), .int (iI cm), .long (jL sk)]) rfl rfl rfl [1] (by decide) (wc := [(b, .inr (0, [.ref t, .int (iI tl), .int (iI bd), .int (iI cm), .long (jL sk)]))]) rfl [] rfl (Nat.le_of_ble_eq_true rfl) ⟨Nat.le_of_ble_eq_true rfl, Nat.le_of_ble_eq_true rfl⟩ dX6_came_32 (fun _ => [(sc, .inr (5, [.ref tx, .ref b, .ref so, .ref pr, .ref b2])), (b, .inr (0, [.ref t, .int (iI tl), .int (iI bd), .int (iI cm), .long (jL sk)]))]) (Or.inl (fun _ => ⟨rfl, rfl⟩)) (fun u32 => [.int (iI u32)]) (fun _ => rfl) 0 0 ⟨rfl, rfl⟩ (fun u32 hu32 => ?_)
      have hpi : u32 = (sp j.toNat : Int) := by rw [hu32, show j = (j.toNat : Int) by omega]; exact pA_in (by omega)
      refine k_istore_n C (lo' := [(2, .int (iI u32)), (0, .ref sc), (1, .int (iI j))]) dX6_came_35 rfl (by decide) rfl ?_
      refine k_aload_n C 1 rfl dX6_came_36 rfl ?_
      refine k_get C (Cn := RX6) (T := TX6) (N := 5) (ci := 5) (ref := "StruckCounts") in_X6_came_X6 0 rfl rfl 1 (by decide) 3 rfl rfl (v := .ref b) rfl dX6_came_37 ?_
      refine k_iload_n C 2 rfl dX6_came_40 rfl ?_
      refine k_callV C (y := yX0_hasStruck) [.int (iI j)] 1 rfl (c_X0_hasStruck (x_l X) (x_G X) b t tl bd cm sk j m (by omega) (by omega) (by omega)) gX6_came_X0_hasStruck rfl ⟨rfl, by decide +kernel, by decide +kernel, by decide +kernel⟩ ⟨by decide, by decide⟩ 1 (fs := [.ref t, .int (iI tl), .int (iI bd), .int (iI cm), .long (jL sk)]) rfl rfl rfl [1] (by decide) (wc := [(b, .inr (0, [.ref t, .int (iI tl), .int (iI bd), .int (iI cm), .long (jL sk)]))]) rfl [] rfl (Nat.le_of_ble_eq_true rfl) ⟨Nat.le_of_ble_eq_true rfl, Nat.le_of_ble_eq_true rfl⟩ dX6_came_41 (fun _ => [(sc, .inr (5, [.ref tx, .ref b, .ref so, .ref pr, .ref b2])), (b, .inr (0, [.ref t, .int (iI tl), .int (iI bd), .int (iI cm), .long (jL sk)]))]) (Or.inl (fun _ => ⟨rfl, rfl⟩)) (fun u41 => [.int (iI u41)]) (fun _ => rfl) 0 0 ⟨rfl, rfl⟩ (fun u41 hu41 => ?_)
      refine k_if_eq C 51 (⟨by omega, by omega⟩) dX6_came_44 (by decide) (fun c44 => ?_) (fun c44 => ?_)
      · skip
        have hu41 := bo_f hu41 c44
        refine k_iload_n C 0 rfl dX6_came_51 rfl ?_
        refine k_ineg C dX6_came_52 ?_
        refine k_nmI (fun v52 e52 => ?_)
        exact k_iret C hR (u := v52) rfl (⟨by omega, by unfold cmI; rw [if_pos (by omega), if_neg hu41, e52, hpi]⟩) rfl (Nat.le_of_ble_eq_true rfl) (Nat.le_of_ble_eq_true rfl) dX6_came_53
      · skip
        have hu41 := bo_t hu41 c44
        refine k_iload_n C 0 rfl dX6_came_47 rfl ?_
        refine k_goto C 53 dX6_came_48 (by decide) ?_
        exact k_iret C hR (u := u32) rfl (⟨by omega, by unfold cmI; rw [if_pos (by omega), if_pos hu41]; exact hpi⟩) rfl (Nat.le_of_ble_eq_true rfl) (Nat.le_of_ble_eq_true rfl) dX6_came_53
    · skip
      refine k_iconst C dX6_came_25 ?_
      exact k_iret C hR (u := 0) rfl (⟨by omega, by unfold cmI; rw [if_neg (by omega)]⟩) rfl (Nat.le_of_ble_eq_true rfl) (Nat.le_of_ble_eq_true rfl) dX6_came_26
  · skip
    exact k_throw C hTh htab hfl rfl 7 rfl 0 rfl 1 2 rfl rfl (by decide +kernel) (by decide +kernel) (by decide +kernel) (by decide +kernel) (by decide +kernel) dX6_came_4 dX6_came_7 dX6_came_8 dX6_came_10 dX6_came_13 (Nat.le_of_ble_eq_true rfl) (Nat.le_of_ble_eq_true rfl) (Nat.le_of_ble_eq_true rfl) (Nat.le_of_ble_eq_true rfl) () rfl (by first | trivial | omega) rfl
theorem in_X6_about_X6 : ∀ w ∈ wsX60, w ∈ wsX6_about := by decide +kernel
theorem in_X6_about_X0 : ∀ w ∈ wsX00, w ∈ wsX6_about := by decide +kernel
theorem in_X6_about_X3 : ∀ w ∈ wsX30, w ∈ wsX6_about := by decide +kernel
set_option maxHeartbeats 4000000 in
set_option maxRecDepth 100000 in
theorem c_X6_about (l : Launch) (G : KG) (sc tx so pr b2 : Nat) (b t va re su : Nat) (tl tb ts bd cm sk : Int) (n k m : Nat) (fv fr fs : Nat → Int) (w : Int) (hS : BdS n k m bd cm sk) (hT : BdT n k m tl tb ts fv fr fs) (hw : -2147483648 ≤ w ∧ w < 2147483648) (hfl : l.stackTraces = false) : Cxt l G yX6_about wsX6_about (rmD 6 1 6) [.ref sc, .int (iI w)] [(sc, .inr (5, [.ref tx, .ref b, .ref so, .ref pr, .ref b2])), (b, .inr (0, [.ref t, .int (iI tl), .int (iI bd), .int (iI cm), .long (jL sk)])), (t, .inr (3, [.ref va, .ref re, .ref su, .int (iI tb), .int (iI ts)])), (va, .inl (g_I G, 631, .inl (aI fv))), (re, .inl (g_I G, 2524, .inl (aI fr))), (su, .inl (g_J G, 631, .inr (.inl (aL fs))))] (fun u : Int × Int × Int × Int × (Nat → Int) × (Nat → Int) × (Nat → Int) => (0 ≤ w ∧ w ≤ 6) ∧ u.1 = abI n k m w ∧ BdT n k m u.2.1 u.2.2.1 u.2.2.2.1 u.2.2.2.2.1 u.2.2.2.2.2.1 u.2.2.2.2.2.2) (fun u : Int × Int × Int × Int × (Nat → Int) × (Nat → Int) × (Nat → Int) => some (.int (iI u.1))) (fun u : Int × Int × Int × Int × (Nat → Int) × (Nat → Int) × (Nat → Int) => [(sc, .inr (5, [.ref tx, .ref b, .ref so, .ref pr, .ref b2])), (b, .inr (0, [.ref t, .int (iI u.2.1), .int (iI bd), .int (iI cm), .long (jL sk)])), (t, .inr (3, [.ref va, .ref re, .ref su, .int (iI u.2.2.1), .int (iI u.2.2.2.1)])), (va, .inl (g_I G, 631, .inl (aI u.2.2.2.2.1))), (re, .inl (g_I G, 2524, .inl (aI u.2.2.2.2.2.1))), (su, .inl (g_J G, 631, .inr (.inl (aL u.2.2.2.2.2.2))))]) (fun v : Unit => ¬ (0 ≤ w ∧ w ≤ 6)) (fun v : Unit => "java/lang/IllegalArgumentException") (fun v : Unit => [(sc, .inr (5, [.ref tx, .ref b, .ref so, .ref pr, .ref b2])), (b, .inr (0, [.ref t, .int (iI tl), .int (iI bd), .int (iI cm), .long (jL sk)])), (t, .inr (3, [.ref va, .ref re, .ref su, .int (iI tb), .int (iI ts)])), (va, .inl (g_I G, 631, .inl (aI fv))), (re, .inl (g_I G, 2524, .inl (aI fr))), (su, .inl (g_J G, 631, .inr (.inl (aL fs))))]) := by
  refine Cxt.of (cc := cX6_about) (maxL := 2) (ret := (some .int)) (by decide +kernel) rfl (Nat.le_of_ble_eq_true rfl) ?_
  intro X C hG hL hnm hR hQ htab
  subst hG
  subst hL
  have C : Cx X cX6_about RX6 wsX6_about (some .int) 2 (rmD 6 1 6) := C
  have hTh : Thr X (fun v : Unit => ¬ (0 ≤ w ∧ w ≤ 6)) (fun v : Unit => "java/lang/IllegalArgumentException") (fun v : Unit => [(sc, .inr (5, [.ref tx, .ref b, .ref so, .ref pr, .ref b2])), (b, .inr (0, [.ref t, .int (iI tl), .int (iI bd), .int (iI cm), .long (jL sk)])), (t, .inr (3, [.ref va, .ref re, .ref su, .int (iI tb), .int (iI ts)])), (va, .inl (g_I (x_G X), 631, .inl (aI fv))), (re, .inl (g_I (x_G X), 2524, .inl (aI fr))), (su, .inl (g_J (x_G X), 631, .inr (.inl (aL fs))))]) := ⟨_, by rw [C.R]; exact hQ⟩
  obtain ⟨s1, s2, s3, s4, s5, s6, s7⟩ := id hS
  have hm64 := m_lt s7 s6
  show K_ X 0 0 [(sc, .inr (5, [.ref tx, .ref b, .ref so, .ref pr, .ref b2])), (b, .inr (0, [.ref t, .int (iI tl), .int (iI bd), .int (iI cm), .long (jL sk)])), (t, .inr (3, [.ref va, .ref re, .ref su, .int (iI tb), .int (iI ts)])), (va, .inl (g_I (x_G X), 631, .inl (aI fv))), (re, .inl (g_I (x_G X), 2524, .inl (aI fr))), (su, .inl (g_J (x_G X), 631, .inr (.inl (aL fs))))] 0 [(0, .ref sc), (1, .int (iI w))] []
  refine k_iload_n C 1 rfl dX6_about_0 rfl ?_
  rcases (show (w < 0 ∨ 6 < w) ∨ (w = 0) ∨ (w = 1) ∨ (w = 2) ∨ (w = 3) ∨ (w = 4) ∨ (w = 5) ∨ (w = 6) by omega) with c1 | c1 | c1 | c1 | c1 | c1 | c1 | c1
  · refine k_tabOut C 126 (⟨by omega, by omega⟩) dX6_about_1 c1 (by decide) ?_
    exact k_throw C hTh htab hfl rfl 4 rfl 0 rfl 1 2 rfl rfl (by decide +kernel) (by decide +kernel) (by decide +kernel) (by decide +kernel) (by decide +kernel) dX6_about_126 dX6_about_129 dX6_about_130 dX6_about_132 dX6_about_135 (Nat.le_of_ble_eq_true rfl) (Nat.le_of_ble_eq_true rfl) (Nat.le_of_ble_eq_true rfl) (Nat.le_of_ble_eq_true rfl) () rfl (by first | trivial | omega) rfl
  · refine k_tabIn C 44 (⟨by omega, by omega⟩) dX6_about_1 (by omega) (by omega) (by rw [c1]; rfl) (by decide) ?_
    subst c1
    refine k_aload_n C 0 rfl dX6_about_44 rfl ?_
    refine k_get C (Cn := RX6) (T := TX6) (N := 5) (ci := 5) (ref := "StruckCounts") in_X6_about_X6 0 rfl rfl 1 (by decide) 3 rfl rfl (v := .ref b) rfl dX6_about_45 ?_
    refine k_getN C (Cn := RX0) (T := TX0) (N := 5) (ci := 0) (ref := "StruckCounts$Board") in_X6_about_X0 1 rfl rfl 2 (by decide) 1 rfl rfl (v := .int (iI bd)) rfl dX6_about_48 ?_
    exact k_iret C hR (u := (bd, tl, tb, ts, fv, fr, fs)) rfl (by (try dsimp only) <;> exact (⟨by omega, s1, hT⟩)) rfl (Nat.le_of_ble_eq_true rfl) (Nat.le_of_ble_eq_true rfl) dX6_about_51
  · refine k_tabIn C 52 (⟨by omega, by omega⟩) dX6_about_1 (by omega) (by omega) (by rw [c1]; rfl) (by decide) ?_
    subst c1
    refine k_aload_n C 0 rfl dX6_about_52 rfl ?_
    refine k_get C (Cn := RX6) (T := TX6) (N := 5) (ci := 5) (ref := "StruckCounts") in_X6_about_X6 0 rfl rfl 1 (by decide) 3 rfl rfl (v := .ref b) rfl dX6_about_53 ?_
    refine k_callV C (y := yX0_tally) [] 0 rfl (c_X0_tally (x_l X) (x_G X) b t va re su tl tb ts bd cm sk n k m fv fr fs (by first | assumption | omega) (by first | assumption | omega)) gX6_about_X0_tally rfl ⟨rfl, by decide +kernel, by decide +kernel, by decide +kernel⟩ ⟨by decide, by decide⟩ 1 (fs := [.ref t, .int (iI tl), .int (iI bd), .int (iI cm), .long (jL sk)]) rfl rfl rfl [1, 2, 3, 4, 5] (by decide) (wc := [(b, .inr (0, [.ref t, .int (iI tl), .int (iI bd), .int (iI cm), .long (jL sk)])), (t, .inr (3, [.ref va, .ref re, .ref su, .int (iI tb), .int (iI ts)])), (va, .inl (g_I (x_G X), 631, .inl (aI fv))), (re, .inl (g_I (x_G X), 2524, .inl (aI fr))), (su, .inl (g_J (x_G X), 631, .inr (.inl (aL fs))))]) rfl [] rfl (Nat.le_of_ble_eq_true rfl) ⟨Nat.le_of_ble_eq_true rfl, Nat.le_of_ble_eq_true rfl⟩ dX6_about_56 (fun u56 => [(sc, .inr (5, [.ref tx, .ref b, .ref so, .ref pr, .ref b2])), (b, .inr (0, [.ref t, .int (iI cm), .int (iI bd), .int (iI cm), .long (jL sk)])), (t, .inr (3, [.ref va, .ref re, .ref su, .int (iI u56.1), .int (iI u56.2.1)])), (va, .inl (g_I (x_G X), 631, .inl (aI u56.2.2.1))), (re, .inl (g_I (x_G X), 2524, .inl (aI u56.2.2.2.1))), (su, .inl (g_J (x_G X), 631, .inr (.inl (aL u56.2.2.2.2))))]) (Or.inr ⟨[0], [0, 1, 2, 3, 4, 5], [(sc, .inr (5, [.ref tx, .ref b, .ref so, .ref pr, .ref b2]))], rfl, by decide, by decide, by decide, fun _ => rfl⟩) (fun u56 => [.ref t]) (fun _ => rfl) 0 0 ⟨rfl, rfl⟩ (fun u56 hu56 => ?_)
    refine k_getN C (Cn := RX3) (T := TX3) (N := 5) (ci := 3) (ref := "StruckCounts$Tally") in_X6_about_X3 2 rfl rfl 4 (by decide) 0 rfl rfl (v := .int (iI u56.2.1)) rfl dX6_about_59 ?_
    exact k_iret C hR (u := (u56.2.1, cm, u56.1, u56.2.1, u56.2.2.1, u56.2.2.2.1, u56.2.2.2.2)) rfl (by (try dsimp only) <;> exact (⟨by omega, hu56.2.1, Tl_up hS hu56⟩)) rfl (Nat.le_of_ble_eq_true rfl) (Nat.le_of_ble_eq_true rfl) dX6_about_62
  · refine k_tabIn C 63 (⟨by omega, by omega⟩) dX6_about_1 (by omega) (by omega) (by rw [c1]; rfl) (by decide) ?_
    subst c1
    refine k_aload_n C 0 rfl dX6_about_63 rfl ?_
    refine k_get C (Cn := RX6) (T := TX6) (N := 5) (ci := 5) (ref := "StruckCounts") in_X6_about_X6 0 rfl rfl 1 (by decide) 3 rfl rfl (v := .ref b) rfl dX6_about_64 ?_
    refine k_getN C (Cn := RX0) (T := TX0) (N := 5) (ci := 0) (ref := "StruckCounts$Board") in_X6_about_X0 1 rfl rfl 4 (by decide) 5 rfl rfl (v := .long (jL sk)) rfl dX6_about_67 ?_
    refine k_callS C (y := yJ13_bitCount_95d88) [.long (jL sk)] 1 rfl (c_J13_bitCount_95d88 (x_l X) (x_G X) sk m (by omega) (by omega)) gX6_about_J13_bitCount_95d88 rfl ⟨by decide +kernel, by decide +kernel, by decide +kernel⟩ ⟨by decide, by decide⟩ [] (by decide) (wc := []) rfl [] rfl (Nat.le_of_ble_eq_true rfl) ⟨Nat.le_of_ble_eq_true rfl, Nat.le_of_ble_eq_true rfl⟩ dX6_about_70 (fun _ => [(sc, .inr (5, [.ref tx, .ref b, .ref so, .ref pr, .ref b2])), (b, .inr (0, [.ref t, .int (iI tl), .int (iI bd), .int (iI cm), .long (jL sk)])), (t, .inr (3, [.ref va, .ref re, .ref su, .int (iI tb), .int (iI ts)])), (va, .inl (g_I (x_G X), 631, .inl (aI fv))), (re, .inl (g_I (x_G X), 2524, .inl (aI fr))), (su, .inl (g_J (x_G X), 631, .inr (.inl (aL fs))))]) (Or.inl (fun _ => ⟨rfl, rfl⟩)) (fun u70 => [.int (iI u70)]) (fun _ => rfl) 0 0 ⟨rfl, rfl⟩ (fun u70 hu70 => ?_)
    exact k_iret C hR (u := (u70, tl, tb, ts, fv, fr, fs)) rfl (by (try dsimp only) <;> exact (⟨by omega, hu70, hT⟩)) rfl (Nat.le_of_ble_eq_true rfl) (Nat.le_of_ble_eq_true rfl) dX6_about_73
  · refine k_tabIn C 74 (⟨by omega, by omega⟩) dX6_about_1 (by omega) (by omega) (by rw [c1]; rfl) (by decide) ?_
    subst c1
    refine k_aload_n C 0 rfl dX6_about_74 rfl ?_
    refine k_get C (Cn := RX6) (T := TX6) (N := 5) (ci := 5) (ref := "StruckCounts") in_X6_about_X6 0 rfl rfl 1 (by decide) 3 rfl rfl (v := .ref b) rfl dX6_about_75 ?_
    refine k_getN C (Cn := RX0) (T := TX0) (N := 5) (ci := 0) (ref := "StruckCounts$Board") in_X6_about_X0 1 rfl rfl 3 (by decide) 3 rfl rfl (v := .int (iI cm)) rfl dX6_about_78 ?_
    refine k_aload_n C 0 rfl dX6_about_81 rfl ?_
    refine k_get C (Cn := RX6) (T := TX6) (N := 5) (ci := 5) (ref := "StruckCounts") in_X6_about_X6 0 rfl rfl 1 (by decide) 3 rfl rfl (v := .ref b) rfl dX6_about_82 ?_
    refine k_getN C (Cn := RX0) (T := TX0) (N := 5) (ci := 0) (ref := "StruckCounts$Board") in_X6_about_X0 1 rfl rfl 4 (by decide) 5 rfl rfl (v := .long (jL sk)) rfl dX6_about_85 ?_
    refine k_callS C (y := yJ13_bitCount_95d88) [.long (jL sk)] 1 rfl (c_J13_bitCount_95d88 (x_l X) (x_G X) sk m (by omega) (by omega)) gX6_about_J13_bitCount_95d88 rfl ⟨by decide +kernel, by decide +kernel, by decide +kernel⟩ ⟨by decide, by decide⟩ [] (by decide) (wc := []) rfl [.int (iI cm)] rfl (Nat.le_of_ble_eq_true rfl) ⟨Nat.le_of_ble_eq_true rfl, Nat.le_of_ble_eq_true rfl⟩ dX6_about_88 (fun _ => [(sc, .inr (5, [.ref tx, .ref b, .ref so, .ref pr, .ref b2])), (b, .inr (0, [.ref t, .int (iI tl), .int (iI bd), .int (iI cm), .long (jL sk)])), (t, .inr (3, [.ref va, .ref re, .ref su, .int (iI tb), .int (iI ts)])), (va, .inl (g_I (x_G X), 631, .inl (aI fv))), (re, .inl (g_I (x_G X), 2524, .inl (aI fr))), (su, .inl (g_J (x_G X), 631, .inr (.inl (aL fs))))]) (Or.inl (fun _ => ⟨rfl, rfl⟩)) (fun u88 => [.int (iI u88), .int (iI cm)]) (fun _ => rfl) 0 0 ⟨rfl, rfl⟩ (fun u88 hu88 => ?_)
    refine k_isub C dX6_about_91 ?_
    refine k_nmI (fun v91 e91 => ?_)
    exact k_iret C hR (u := (v91, tl, tb, ts, fv, fr, fs)) rfl (by (try dsimp only) <;> exact (⟨by omega, by rw [e91, s2, hu88]; rfl, hT⟩)) rfl (Nat.le_of_ble_eq_true rfl) (Nat.le_of_ble_eq_true rfl) dX6_about_92
  · refine k_tabIn C 93 (⟨by omega, by omega⟩) dX6_about_1 (by omega) (by omega) (by rw [c1]; rfl) (by decide) ?_
    subst c1
    refine k_aload_n C 0 rfl dX6_about_93 rfl ?_
    refine k_get C (Cn := RX6) (T := TX6) (N := 5) (ci := 5) (ref := "StruckCounts") in_X6_about_X6 0 rfl rfl 1 (by decide) 3 rfl rfl (v := .ref b) rfl dX6_about_94 ?_
    refine k_callV C (y := yX0_countLeft) [] 0 rfl (c_X0_countLeft (x_l X) (x_G X) b t va re su tl tb ts bd cm sk n k m fv fr fs (by assumption) (by assumption)) gX6_about_X0_countLeft rfl ⟨rfl, by decide +kernel, by decide +kernel, by decide +kernel⟩ ⟨by decide, by decide⟩ 1 (fs := [.ref t, .int (iI tl), .int (iI bd), .int (iI cm), .long (jL sk)]) rfl rfl rfl [1, 2, 3, 4, 5] (by decide) (wc := [(b, .inr (0, [.ref t, .int (iI tl), .int (iI bd), .int (iI cm), .long (jL sk)])), (t, .inr (3, [.ref va, .ref re, .ref su, .int (iI tb), .int (iI ts)])), (va, .inl (g_I (x_G X), 631, .inl (aI fv))), (re, .inl (g_I (x_G X), 2524, .inl (aI fr))), (su, .inl (g_J (x_G X), 631, .inr (.inl (aL fs))))]) rfl [] rfl (Nat.le_of_ble_eq_true rfl) ⟨Nat.le_of_ble_eq_true rfl, Nat.le_of_ble_eq_true rfl⟩ dX6_about_97 (fun u97 => [(sc, .inr (5, [.ref tx, .ref b, .ref so, .ref pr, .ref b2])), (b, .inr (0, [.ref t, .int (iI cm), .int (iI bd), .int (iI cm), .long (jL sk)])), (t, .inr (3, [.ref va, .ref re, .ref su, .int (iI u97.2.1), .int (iI u97.2.2.1)])), (va, .inl (g_I (x_G X), 631, .inl (aI u97.2.2.2.1))), (re, .inl (g_I (x_G X), 2524, .inl (aI u97.2.2.2.2.1))), (su, .inl (g_J (x_G X), 631, .inr (.inl (aL u97.2.2.2.2.2))))]) (Or.inr ⟨[0], [0, 1, 2, 3, 4, 5], [(sc, .inr (5, [.ref tx, .ref b, .ref so, .ref pr, .ref b2]))], rfl, by decide, by decide, by decide, fun _ => rfl⟩) (fun u97 => [.int (iI u97.1)]) (fun _ => rfl) 0 0 ⟨rfl, rfl⟩ (fun u97 hu97 => ?_)
    exact k_iret C hR (u := (u97.1, cm, u97.2.1, u97.2.2.1, u97.2.2.2.1, u97.2.2.2.2.1, u97.2.2.2.2.2)) rfl (by (try dsimp only) <;> exact (⟨by omega, hu97.2, Tl_up hS hu97.1⟩)) rfl (Nat.le_of_ble_eq_true rfl) (Nat.le_of_ble_eq_true rfl) dX6_about_100
  · refine k_tabIn C 101 (⟨by omega, by omega⟩) dX6_about_1 (by omega) (by omega) (by rw [c1]; rfl) (by decide) ?_
    subst c1
    refine k_aload_n C 0 rfl dX6_about_101 rfl ?_
    refine k_get C (Cn := RX6) (T := TX6) (N := 5) (ci := 5) (ref := "StruckCounts") in_X6_about_X6 0 rfl rfl 1 (by decide) 3 rfl rfl (v := .ref b) rfl dX6_about_102 ?_
    refine k_callV C (y := yX0_nextPrime) [] 0 rfl (c_X0_nextPrime (x_l X) (x_G X) b t tl bd cm sk n k m (by first | assumption | omega)) gX6_about_X0_nextPrime rfl ⟨rfl, by decide +kernel, by decide +kernel, by decide +kernel⟩ ⟨by decide, by decide⟩ 1 (fs := [.ref t, .int (iI tl), .int (iI bd), .int (iI cm), .long (jL sk)]) rfl rfl rfl [1] (by decide) (wc := [(b, .inr (0, [.ref t, .int (iI tl), .int (iI bd), .int (iI cm), .long (jL sk)]))]) rfl [] rfl (Nat.le_of_ble_eq_true rfl) ⟨Nat.le_of_ble_eq_true rfl, Nat.le_of_ble_eq_true rfl⟩ dX6_about_105 (fun _ => [(sc, .inr (5, [.ref tx, .ref b, .ref so, .ref pr, .ref b2])), (b, .inr (0, [.ref t, .int (iI tl), .int (iI bd), .int (iI cm), .long (jL sk)])), (t, .inr (3, [.ref va, .ref re, .ref su, .int (iI tb), .int (iI ts)])), (va, .inl (g_I (x_G X), 631, .inl (aI fv))), (re, .inl (g_I (x_G X), 2524, .inl (aI fr))), (su, .inl (g_J (x_G X), 631, .inr (.inl (aL fs))))]) (Or.inl (fun _ => ⟨rfl, rfl⟩)) (fun u105 => [.int (iI u105)]) (fun _ => rfl) 0 0 ⟨rfl, rfl⟩ (fun u105 hu105 => ?_)
    exact k_iret C hR (u := (u105, tl, tb, ts, fv, fr, fs)) rfl (by (try dsimp only) <;> exact (⟨by omega, hu105, hT⟩)) rfl (Nat.le_of_ble_eq_true rfl) (Nat.le_of_ble_eq_true rfl) dX6_about_108
  · refine k_tabIn C 109 (⟨by omega, by omega⟩) dX6_about_1 (by omega) (by omega) (by rw [c1]; rfl) (by decide) ?_
    subst c1
    refine k_aload_n C 0 rfl dX6_about_109 rfl ?_
    refine k_get C (Cn := RX6) (T := TX6) (N := 5) (ci := 5) (ref := "StruckCounts") in_X6_about_X6 0 rfl rfl 1 (by decide) 3 rfl rfl (v := .ref b) rfl dX6_about_110 ?_
    refine k_aload_n C 0 rfl dX6_about_113 rfl ?_
    refine k_get C (Cn := RX6) (T := TX6) (N := 5) (ci := 5) (ref := "StruckCounts") in_X6_about_X6 0 rfl rfl 1 (by decide) 3 rfl rfl (v := .ref b) rfl dX6_about_114 ?_
    refine k_getN C (Cn := RX0) (T := TX0) (N := 5) (ci := 0) (ref := "StruckCounts$Board") in_X6_about_X0 1 rfl rfl 3 (by decide) 3 rfl rfl (v := .int (iI cm)) rfl dX6_about_117 ?_
    refine k_iconst C dX6_about_120 ?_
    refine k_isub C dX6_about_121 ?_
    refine k_nmI (fun v121 e121 => ?_)
    refine k_callV C (y := yX0_primeAt) [.int (iI v121)] 1 rfl (c_X0_primeAt (x_l X) (x_G X) b t tl bd cm sk v121 (by first | assumption | omega)) gX6_about_X0_primeAt rfl ⟨rfl, by decide +kernel, by decide +kernel, by decide +kernel⟩ ⟨by decide, by decide⟩ 1 (fs := [.ref t, .int (iI tl), .int (iI bd), .int (iI cm), .long (jL sk)]) rfl rfl rfl [1] (by decide) (wc := [(b, .inr (0, [.ref t, .int (iI tl), .int (iI bd), .int (iI cm), .long (jL sk)]))]) rfl [] rfl (Nat.le_of_ble_eq_true rfl) ⟨Nat.le_of_ble_eq_true rfl, Nat.le_of_ble_eq_true rfl⟩ dX6_about_122 (fun _ => [(sc, .inr (5, [.ref tx, .ref b, .ref so, .ref pr, .ref b2])), (b, .inr (0, [.ref t, .int (iI tl), .int (iI bd), .int (iI cm), .long (jL sk)])), (t, .inr (3, [.ref va, .ref re, .ref su, .int (iI tb), .int (iI ts)])), (va, .inl (g_I (x_G X), 631, .inl (aI fv))), (re, .inl (g_I (x_G X), 2524, .inl (aI fr))), (su, .inl (g_J (x_G X), 631, .inr (.inl (aL fs))))]) (Or.inl (fun _ => ⟨rfl, rfl⟩)) (fun u122 => [.int (iI u122)]) (fun _ => rfl) 0 0 ⟨rfl, rfl⟩ (fun u122 hu122 => ?_)
    exact k_iret C hR (u := (u122, tl, tb, ts, fv, fr, fs)) rfl (by (try dsimp only) <;> exact (⟨by omega, by rw [hu122, e121, s2]; rfl, hT⟩)) rfl (Nat.le_of_ble_eq_true rfl) (Nat.le_of_ble_eq_true rfl) dX6_about_125
end
section
/-! the store: states remembered, states kept -/
def Vld (x : Nat × Nat × Nat) : Prop := 1 ≤ x.1 ∧ x.1 ≤ 99999 ∧ x.2.1 ≤ 40 ∧ x.2.2 < 2 ^ x.2.1
def Has (fb fc fk : Nat → Int) (p : Nat) (x : Nat × Nat × Nat) : Prop := fb p = (x.1 : Int) ∧ fc p = (x.2.1 : Int) ∧ fk p = (x.2.2 : Int)
def StR (R : List (Nat × Nat × Nat)) (nw rb : Int) (fb fc fk : Nat → Int) : Prop := (0 ≤ nw ∧ nw < 14) ∧ rb = (R.length : Int) ∧ R.length ≤ 14 ∧ ∀ (i : Nat) (x : Nat × Nat × Nat), R[i]? = some x → Vld x ∧ Has fb fc fk ((nw.toNat + 14 - i) % 14) x
def StV (sv : Nat → Option (Nat × Nat × Nat)) (fb fc fk : Nat → Int) : Prop := ∀ j : Nat, j < 2 → (sv j = none → fb (14 + j) = 0) ∧ ∀ x, sv j = some x → Vld x ∧ Has fb fc fk (14 + j) x
def StOK (R : List (Nat × Nat × Nat)) (sv : Nat → Option (Nat × Nat × Nat)) (nw rb : Int) (fb fc fk : Nat → Int) : Prop := StR R nw rb fb fc fk ∧ StV sv fb fc fk
theorem Has_s {fb fc fk gb gc gk : Nat → Int} {p : Nat} {x : Nat × Nat × Nat} (h1 : gb = upI fb p (x.1 : Int)) (h2 : gc = upI fc p (x.2.1 : Int)) (h3 : gk = upI fk p (x.2.2 : Int)) : Has gb gc gk p x := by
  refine ⟨?_, ?_, ?_⟩
  · rw [h1, upI_s]
  · rw [h2, upI_s]
  · rw [h3, upI_s]
theorem Has_n {fb fc fk gb gc gk : Nat → Int} {p q : Nat} {a b c : Int} {x : Nat × Nat × Nat} (h1 : gb = upI fb p a) (h2 : gc = upI fc p b) (h3 : gk = upI fk p c) (hq : ¬ q = p) (h : Has fb fc fk q x) : Has gb gc gk q x := by
  refine ⟨?_, ?_, ?_⟩
  · rw [h1, upI_n hq]; exact h.1
  · rw [h2, upI_n hq]; exact h.2.1
  · rw [h3, upI_n hq]; exact h.2.2
theorem Vld_of {n k m : Nat} {bd cm sk : Int} (h : BdS n k m bd cm sk) : Vld (n, k, m) := ⟨h.2.2.2.1, h.2.2.2.2.1, h.2.2.2.2.2.1, h.2.2.2.2.2.2⟩
theorem BdS_of {x : Nat × Nat × Nat} {bd cm sk : Int} (h : Vld x) (h1 : bd = (x.1 : Int)) (h2 : cm = (x.2.1 : Int)) (h3 : sk = (x.2.2 : Int)) : BdS x.1 x.2.1 x.2.2 bd cm sk := ⟨h1, h2, h3, h.1, h.2.1, h.2.2.1, h.2.2.2⟩
theorem St_rem {R : List (Nat × Nat × Nat)} {sv : Nat → Option (Nat × Nat × Nat)} {nw rb nw' rb' : Int} {fb fc fk gb gc gk : Nat → Int} {n k m : Nat} {bd cm sk : Int} (h : StOK R sv nw rb fb fc fk) (hS : BdS n k m bd cm sk)
    (hu : nw' = (nw + 1) % 14 ∧ (rb' = if rb = 14 then 14 else rb + 1) ∧ gb = upI fb ((nw + 1) % 14).toNat bd ∧ gc = upI fc ((nw + 1) % 14).toNat cm ∧ gk = upI fk ((nw + 1) % 14).toNat sk) : StOK (((n, k, m) :: R).take 14) sv nw' rb' gb gc gk := by
  obtain ⟨⟨h1, h2, h3, h4⟩, h5⟩ := h
  obtain ⟨u1, u2, u3, u4, u5⟩ := hu
  rw [hS.1] at u3; rw [hS.2.1] at u4; rw [hS.2.2.1] at u5
  have hp : ((nw + 1) % 14).toNat = nw'.toNat := by rw [u1]
  rw [hp] at u3 u4 u5
  refine ⟨⟨by omega, ?_, by rw [List.length_take]; exact Nat.min_le_left _ _, fun i x hx => ?_⟩, fun j hj => ⟨fun hn => ?_, fun x hx => ?_⟩⟩
  · rw [u2, List.length_take, List.length_cons]
    split <;> omega
  · rw [List.getElem?_take] at hx
    split at hx
    · rcases i with _ | i
      · rw [List.getElem?_cons_zero] at hx
        cases hx
        refine ⟨Vld_of hS, ?_⟩
        rw [show (nw'.toNat + 14 - 0) % 14 = nw'.toNat by omega]
        exact Has_s (x := (n, k, m)) u3 u4 u5
      · rw [List.getElem?_cons_succ] at hx
        obtain ⟨z1, z2⟩ := h4 i x hx
        refine ⟨z1, ?_⟩
        rw [show (nw'.toNat + 14 - (i + 1)) % 14 = (nw.toNat + 14 - i) % 14 by omega]
        exact Has_n u3 u4 u5 (by omega) z2
    · cases hx
  · rw [u3, upI_n (by omega)]; exact (h5 j hj).1 hn
  · obtain ⟨z1, z2⟩ := (h5 j hj).2 x hx
    exact ⟨z1, Has_n u3 u4 u5 (by omega) z2⟩
theorem St_take {R : List (Nat × Nat × Nat)} {sv : Nat → Option (Nat × Nat × Nat)} {nw rb nw' rb' bd cm sk : Int} {fb fc fk : Nat → Int} (h : StOK R sv nw rb fb fc fk) (h0 : 1 ≤ rb)
    (hu : nw' = (nw + 13) % 14 ∧ rb' = rb - 1 ∧ bd = fb nw.toNat ∧ cm = fc nw.toNat ∧ sk = fk nw.toNat) : ∃ x R', R = x :: R' ∧ Vld x ∧ (bd = (x.1 : Int) ∧ cm = (x.2.1 : Int) ∧ sk = (x.2.2 : Int)) ∧ StOK R' sv nw' rb' fb fc fk := by
  obtain ⟨⟨h1, h2, h3, h4⟩, h5⟩ := h
  obtain ⟨u1, u2, u3, u4, u5⟩ := hu
  rcases R with _ | ⟨x, R'⟩
  · exact absurd h2 (by rw [List.length_nil]; omega)
  · rw [List.length_cons] at h2 h3
    obtain ⟨z1, z2⟩ := h4 0 x rfl
    rw [show (nw.toNat + 14 - 0) % 14 = nw.toNat by omega] at z2
    refine ⟨x, R', rfl, z1, ⟨by rw [u3]; exact z2.1, by rw [u4]; exact z2.2.1, by rw [u5]; exact z2.2.2⟩, ⟨⟨by omega, by omega, by omega, fun i y hy => ?_⟩, h5⟩⟩
    have hi : i < R'.length := by
      rcases Nat.lt_or_ge i R'.length with z | z
      · exact z
      · rw [List.getElem?_eq_none z] at hy; cases hy
    obtain ⟨y1, y2⟩ := h4 (i + 1) y (by rw [List.getElem?_cons_succ]; exact hy)
    refine ⟨y1, ?_⟩
    rw [show (nw'.toNat + 14 - i) % 14 = (nw.toNat + 14 - (i + 1)) % 14 by omega]
    exact y2
def svU (sv : Nat → Option (Nat × Nat × Nat)) (j : Nat) (x : Nat × Nat × Nat) : Nat → Option (Nat × Nat × Nat) := fun i => if i = j then some x else sv i
theorem St_slot {R : List (Nat × Nat × Nat)} {sv : Nat → Option (Nat × Nat × Nat)} {nw rb sl : Int} {fb fc fk gb gc gk : Nat → Int} {n k m : Nat} {bd cm sk : Int} (h : StOK R sv nw rb fb fc fk) (hS : BdS n k m bd cm sk) (hs : 0 ≤ sl ∧ sl ≤ 1)
    (hu : gb = upI fb (14 + sl).toNat bd ∧ gc = upI fc (14 + sl).toNat cm ∧ gk = upI fk (14 + sl).toNat sk) : StOK R (svU sv sl.toNat (n, k, m)) nw rb gb gc gk := by
  obtain ⟨⟨h1, h2, h3, h4⟩, h5⟩ := h
  obtain ⟨u3, u4, u5⟩ := hu
  rw [hS.1] at u3; rw [hS.2.1] at u4; rw [hS.2.2.1] at u5
  have hp : (14 + sl).toNat = 14 + sl.toNat := by omega
  rw [hp] at u3 u4 u5
  refine ⟨⟨h1, h2, h3, fun i x hx => ?_⟩, fun j hj => ⟨fun hn => ?_, fun x hx => ?_⟩⟩
  · obtain ⟨z1, z2⟩ := h4 i x hx
    exact ⟨z1, Has_n u3 u4 u5 (by omega) z2⟩
  · unfold svU at hn
    split at hn
    · cases hn
    · rename_i e
      rw [u3, upI_n (by omega)]; exact (h5 j hj).1 hn
  · unfold svU at hx
    split at hx
    · rename_i e
      cases hx
      rw [e]
      exact ⟨Vld_of hS, Has_s (x := (n, k, m)) u3 u4 u5⟩
    · rename_i e
      obtain ⟨z1, z2⟩ := (h5 j hj).2 x hx
      exact ⟨z1, Has_n u3 u4 u5 (by omega) z2⟩
theorem St_kept {R : List (Nat × Nat × Nat)} {sv : Nat → Option (Nat × Nat × Nat)} {nw rb sl : Int} {fb fc fk : Nat → Int} (h : StOK R sv nw rb fb fc fk) (hs : 0 ≤ sl ∧ sl ≤ 1) : (fb (14 + sl).toNat = 0 ∧ sv sl.toNat = none) ∨ ∃ x, sv sl.toNat = some x ∧ Vld x ∧ Has fb fc fk (14 + sl).toNat x ∧ ¬ fb (14 + sl).toNat = 0 := by
  have hp : (14 + sl).toNat = 14 + sl.toNat := by omega
  rw [hp]
  obtain ⟨z1, z2⟩ := h.2 sl.toNat (by omega)
  cases e : sv sl.toNat with
  | none => exact Or.inl ⟨z1 e, rfl⟩
  | some x =>
    obtain ⟨y1, y2⟩ := z2 x e
    refine Or.inr ⟨x, rfl, y1, y2, ?_⟩
    have := y2.1
    have := y1.1
    omega
theorem St_clear {R : List (Nat × Nat × Nat)} {sv : Nat → Option (Nat × Nat × Nat)} {nw rb : Int} {fb fc fk : Nat → Int} (h : StOK R sv nw rb fb fc fk) : StOK [] sv nw 0 fb fc fk :=
  ⟨⟨h.1.1, rfl, by decide, fun i x hx => by rw [List.getElem?_nil] at hx; cases hx⟩, h.2⟩
theorem St_empty {nw : Int} {fb fc fk : Nat → Int} (h : 0 ≤ nw ∧ nw < 14) (h2 : fb 14 = 0 ∧ fb 15 = 0) : StOK [] (fun _ => none) nw 0 fb fc fk :=
  ⟨⟨h, rfl, by decide, fun i x hx => by rw [List.getElem?_nil] at hx; cases hx⟩, fun j hj => ⟨fun _ => by
    rcases (show j = 0 ∨ j = 1 by omega) with rfl | rfl
    · exact h2.1
    · exact h2.2, fun x hx => by cases hx⟩⟩
theorem St_rng {R : List (Nat × Nat × Nat)} {sv : Nat → Option (Nat × Nat × Nat)} {nw rb : Int} {fb fc fk : Nat → Int} (h : StOK R sv nw rb fb fc fk) : (0 ≤ nw ∧ nw < 14) ∧ 0 ≤ rb ∧ rb ≤ 14 ∧ (rb = 0 ↔ R = []) := by
  obtain ⟨⟨h1, h2, h3, h4⟩, h5⟩ := h
  refine ⟨h1, by omega, by omega, fun z => ?_, fun z => ?_⟩
  · exact List.length_eq_zero_iff.mp (by omega)
  · rw [h2, z]; rfl
end
section
theorem msk_lo {m k j i : Nat} (hi : i < k) : (msk m k j).testBit i = m.testBit i := by
  induction j with
  | zero => rfl
  | succ j ih =>
    show (msk m k j ||| 2 ^ (k + j)).testBit i = _
    rw [Nat.testBit_or, ih, Nat.testBit_two_pow, decide_eq_false (by omega), Bool.or_false]
theorem or_lo {m k i : Nat} (hi : i < k) : m.testBit i = (m ||| 2 ^ k).testBit i := (msk_lo (m := m) (k := k) (j := 1) hi).symm

theorem in_X6_bound_X6 : ∀ w ∈ wsX60, w ∈ wsX6_bound := by decide +kernel
theorem in_X6_bound_X0 : ∀ w ∈ wsX00, w ∈ wsX6_bound := by decide +kernel
set_option maxHeartbeats 4000000 in
set_option maxRecDepth 100000 in
theorem c_X6_bound (l : Launch) (G : KG) (sc tx so pr b2 bo ca ss b t : Nat) (nw rb tl bd cm sk : Int) (fb fc fk : Nat → Int) (R : List (Nat × Nat × Nat)) (sv : Nat → Option (Nat × Nat × Nat)) (n k m : Nat) (x : Int) (hS : BdS n k m bd cm sk) (hK : StOK R sv nw rb fb fc fk) (hx : -2147483648 ≤ x ∧ x < 2147483648) (hfl : l.stackTraces = false) : Cxt l G yX6_bound wsX6_bound (rmD 7 1 6) [.ref sc, .int (iI x)] [(sc, .inr (5, [.ref tx, .ref b, .ref so, .ref pr, .ref b2])), (b, .inr (0, [.ref t, .int (iI tl), .int (iI bd), .int (iI cm), .long (jL sk)])), (so, .inr (2, [.ref bo, .ref ca, .ref ss, .int (iI nw), .int (iI rb)])), (bo, .inl (g_I G, 16, .inl (aI fb))), (ca, .inl (g_I G, 16, .inl (aI fc))), (ss, .inl (g_J G, 16, .inr (.inl (aL fk))))] (fun u : Int × Int × Int × (Nat → Int) × (Nat → Int) × (Nat → Int) => (1 ≤ x ∧ x ≤ 99999) ∧ u.1 = (n : Int) ∧ StOK (((n, k, m) :: R).take 14) sv u.2.1 u.2.2.1 u.2.2.2.1 u.2.2.2.2.1 u.2.2.2.2.2) (fun u : Int × Int × Int × (Nat → Int) × (Nat → Int) × (Nat → Int) => some (.int (iI u.1))) (fun u : Int × Int × Int × (Nat → Int) × (Nat → Int) × (Nat → Int) => [(sc, .inr (5, [.ref tx, .ref b, .ref so, .ref pr, .ref b2])), (b, .inr (0, [.ref t, .int (iI (-1)), .int (iI x), .int (iI 0), .long (jL 0)])), (so, .inr (2, [.ref bo, .ref ca, .ref ss, .int (iI u.2.1), .int (iI u.2.2.1)])), (bo, .inl (g_I G, 16, .inl (aI u.2.2.2.1))), (ca, .inl (g_I G, 16, .inl (aI u.2.2.2.2.1))), (ss, .inl (g_J G, 16, .inr (.inl (aL u.2.2.2.2.2))))]) (fun v : Unit => ¬ (1 ≤ x ∧ x ≤ 99999)) (fun v : Unit => "java/lang/IllegalArgumentException") (fun v : Unit => [(sc, .inr (5, [.ref tx, .ref b, .ref so, .ref pr, .ref b2])), (b, .inr (0, [.ref t, .int (iI tl), .int (iI bd), .int (iI cm), .long (jL sk)])), (so, .inr (2, [.ref bo, .ref ca, .ref ss, .int (iI nw), .int (iI rb)])), (bo, .inl (g_I G, 16, .inl (aI fb))), (ca, .inl (g_I G, 16, .inl (aI fc))), (ss, .inl (g_J G, 16, .inr (.inl (aL fk))))]) := by
  refine Cxt.of (cc := cX6_bound) (maxL := 3) (ret := (some .int)) (by decide +kernel) rfl (Nat.le_of_ble_eq_true rfl) ?_
  intro X C hG hL hnm hR hQ htab
  subst hG
  subst hL
  have C : Cx X cX6_bound RX6 wsX6_bound (some .int) 3 (rmD 7 1 6) := C
  have hTh : Thr X (fun v : Unit => ¬ (1 ≤ x ∧ x ≤ 99999)) (fun v : Unit => "java/lang/IllegalArgumentException") (fun v : Unit => [(sc, .inr (5, [.ref tx, .ref b, .ref so, .ref pr, .ref b2])), (b, .inr (0, [.ref t, .int (iI tl), .int (iI bd), .int (iI cm), .long (jL sk)])), (so, .inr (2, [.ref bo, .ref ca, .ref ss, .int (iI nw), .int (iI rb)])), (bo, .inl (g_I (x_G X), 16, .inl (aI fb))), (ca, .inl (g_I (x_G X), 16, .inl (aI fc))), (ss, .inl (g_J (x_G X), 16, .inr (.inl (aL fk))))]) := ⟨_, by rw [C.R]; exact hQ⟩
  obtain ⟨s1, s2, s3, s4, s5, s6, s7⟩ := id hS
  obtain ⟨r1, r2, r3, r4⟩ := St_rng hK
  show K_ X 0 0 [(sc, .inr (5, [.ref tx, .ref b, .ref so, .ref pr, .ref b2])), (b, .inr (0, [.ref t, .int (iI tl), .int (iI bd), .int (iI cm), .long (jL sk)])), (so, .inr (2, [.ref bo, .ref ca, .ref ss, .int (iI nw), .int (iI rb)])), (bo, .inl (g_I (x_G X), 16, .inl (aI fb))), (ca, .inl (g_I (x_G X), 16, .inl (aI fc))), (ss, .inl (g_J (x_G X), 16, .inr (.inl (aL fk))))] 0 [(0, .ref sc), (1, .int (iI x))] []
  refine k_iload_n C 1 rfl dX6_bound_0 rfl ?_
  refine k_iconst C dX6_bound_1 ?_
  refine k_ldc C 99999 3 rfl (by decide) dX6_bound_2 ?_
  refine k_callS C (y := yX6_outside) [.int (iI x), .int (iI 1), .int (iI 99999)] 3 rfl (c_X6_outside (x_l X) (x_G X) x 1 99999 (by omega) (by omega) (by omega)) gX6_bound_X6_outside rfl ⟨by decide +kernel, by decide +kernel, by decide +kernel⟩ ⟨by decide, by decide⟩ [] (by decide) (wc := []) rfl [] rfl (Nat.le_of_ble_eq_true rfl) ⟨Nat.le_of_ble_eq_true rfl, Nat.le_of_ble_eq_true rfl⟩ dX6_bound_4 (fun _ => [(sc, .inr (5, [.ref tx, .ref b, .ref so, .ref pr, .ref b2])), (b, .inr (0, [.ref t, .int (iI tl), .int (iI bd), .int (iI cm), .long (jL sk)])), (so, .inr (2, [.ref bo, .ref ca, .ref ss, .int (iI nw), .int (iI rb)])), (bo, .inl (g_I (x_G X), 16, .inl (aI fb))), (ca, .inl (g_I (x_G X), 16, .inl (aI fc))), (ss, .inl (g_J (x_G X), 16, .inr (.inl (aL fk))))]) (Or.inl (fun _ => ⟨rfl, rfl⟩)) (fun u4 => [.int (iI u4)]) (fun _ => rfl) 0 0 ⟨rfl, rfl⟩ (fun u4 hu4 => ?_)
  refine k_if_eq C 20 (⟨by omega, by omega⟩) dX6_bound_7 (by decide) (fun c7 => ?_) (fun c7 => ?_)
  · skip
    have hu4 := bo_f hu4 c7
    refine k_aload_n C 0 rfl dX6_bound_20 rfl ?_
    refine k_get C (Cn := RX6) (T := TX6) (N := 5) (ci := 5) (ref := "StruckCounts") in_X6_bound_X6 0 rfl rfl 2 (by decide) 4 rfl rfl (v := .ref so) rfl dX6_bound_21 ?_
    refine k_aload_n C 0 rfl dX6_bound_24 rfl ?_
    refine k_get C (Cn := RX6) (T := TX6) (N := 5) (ci := 5) (ref := "StruckCounts") in_X6_bound_X6 0 rfl rfl 1 (by decide) 5 rfl rfl (v := .ref b) rfl dX6_bound_25 ?_
    refine k_callV C (y := yX2_remember) [.ref b] 1 rfl (c_X2_remember (x_l X) (x_G X) so bo ca ss nw rb b t tl bd cm sk fb fc fk (by omega) (by omega)) gX6_bound_X2_remember rfl ⟨rfl, by decide +kernel, by decide +kernel, by decide +kernel⟩ ⟨by decide, by decide⟩ 2 (fs := [.ref bo, .ref ca, .ref ss, .int (iI nw), .int (iI rb)]) rfl rfl rfl [2, 3, 4, 5, 1] (by decide) (wc := [(so, .inr (2, [.ref bo, .ref ca, .ref ss, .int (iI nw), .int (iI rb)])), (bo, .inl (g_I (x_G X), 16, .inl (aI fb))), (ca, .inl (g_I (x_G X), 16, .inl (aI fc))), (ss, .inl (g_J (x_G X), 16, .inr (.inl (aL fk)))), (b, .inr (0, [.ref t, .int (iI tl), .int (iI bd), .int (iI cm), .long (jL sk)]))]) rfl [] rfl (Nat.le_of_ble_eq_true rfl) ⟨Nat.le_of_ble_eq_true rfl, Nat.le_of_ble_eq_true rfl⟩ dX6_bound_28 (fun u28 => [(sc, .inr (5, [.ref tx, .ref b, .ref so, .ref pr, .ref b2])), (b, .inr (0, [.ref t, .int (iI tl), .int (iI bd), .int (iI cm), .long (jL sk)])), (so, .inr (2, [.ref bo, .ref ca, .ref ss, .int (iI u28.1), .int (iI u28.2.1)])), (bo, .inl (g_I (x_G X), 16, .inl (aI u28.2.2.1))), (ca, .inl (g_I (x_G X), 16, .inl (aI u28.2.2.2.1))), (ss, .inl (g_J (x_G X), 16, .inr (.inl (aL u28.2.2.2.2))))]) (Or.inr ⟨[0], [0, 5, 1, 2, 3, 4], [(sc, .inr (5, [.ref tx, .ref b, .ref so, .ref pr, .ref b2]))], rfl, by decide, by decide, by decide, fun _ => rfl⟩) (fun u28 => []) (fun _ => rfl) 0 0 ⟨rfl, rfl⟩ (fun u28 hu28 => ?_)
    refine k_aload_n C 0 rfl dX6_bound_31 rfl ?_
    refine k_get C (Cn := RX6) (T := TX6) (N := 5) (ci := 5) (ref := "StruckCounts") in_X6_bound_X6 0 rfl rfl 1 (by decide) 5 rfl rfl (v := .ref b) rfl dX6_bound_32 ?_
    refine k_getN C (Cn := RX0) (T := TX0) (N := 5) (ci := 0) (ref := "StruckCounts$Board") in_X6_bound_X0 1 rfl rfl 2 (by decide) 1 rfl rfl (v := .int (iI bd)) rfl dX6_bound_35 ?_
    refine k_istore_n C (lo' := [(2, .int (iI bd)), (0, .ref sc), (1, .int (iI x))]) dX6_bound_38 rfl (by decide) rfl ?_
    refine k_aload_n C 1 rfl dX6_bound_39 rfl ?_
    refine k_get C (Cn := RX6) (T := TX6) (N := 5) (ci := 5) (ref := "StruckCounts") in_X6_bound_X6 0 rfl rfl 1 (by decide) 5 rfl rfl (v := .ref b) rfl dX6_bound_40 ?_
    refine k_iload_n C 2 rfl dX6_bound_43 rfl ?_
    refine k_callV C (y := yX0_begin) [.int (iI x)] 1 rfl (c_X0_begin (x_l X) (x_G X) b t tl bd cm sk x ) gX6_bound_X0_begin rfl ⟨rfl, by decide +kernel, by decide +kernel, by decide +kernel⟩ ⟨by decide, by decide⟩ 1 (fs := [.ref t, .int (iI tl), .int (iI bd), .int (iI cm), .long (jL sk)]) rfl rfl rfl [1] (by decide) (wc := [(b, .inr (0, [.ref t, .int (iI tl), .int (iI bd), .int (iI cm), .long (jL sk)]))]) rfl [] rfl (Nat.le_of_ble_eq_true rfl) ⟨Nat.le_of_ble_eq_true rfl, Nat.le_of_ble_eq_true rfl⟩ dX6_bound_44 (fun u44 => [(sc, .inr (5, [.ref tx, .ref b, .ref so, .ref pr, .ref b2])), (b, .inr (0, [.ref t, .int (iI (-1)), .int (iI x), .int (iI 0), .long (jL 0)])), (so, .inr (2, [.ref bo, .ref ca, .ref ss, .int (iI u28.1), .int (iI u28.2.1)])), (bo, .inl (g_I (x_G X), 16, .inl (aI u28.2.2.1))), (ca, .inl (g_I (x_G X), 16, .inl (aI u28.2.2.2.1))), (ss, .inl (g_J (x_G X), 16, .inr (.inl (aL u28.2.2.2.2))))]) (Or.inr ⟨[0, 2, 3, 4, 5], [0, 5, 1, 2, 3, 4], [(sc, .inr (5, [.ref tx, .ref b, .ref so, .ref pr, .ref b2])), (so, .inr (2, [.ref bo, .ref ca, .ref ss, .int (iI u28.1), .int (iI u28.2.1)])), (bo, .inl (g_I (x_G X), 16, .inl (aI u28.2.2.1))), (ca, .inl (g_I (x_G X), 16, .inl (aI u28.2.2.2.1))), (ss, .inl (g_J (x_G X), 16, .inr (.inl (aL u28.2.2.2.2))))], rfl, by decide, by decide, by decide, fun _ => rfl⟩) (fun u44 => []) (fun _ => rfl) 0 0 ⟨rfl, rfl⟩ (fun u44 hu44 => ?_)
    refine k_iload_n C 0 rfl dX6_bound_47 rfl ?_
    exact k_iret C hR (u := (bd, u28.1, u28.2.1, u28.2.2.1, u28.2.2.2.1, u28.2.2.2.2)) rfl (by (try dsimp only) <;> exact (⟨by omega, s1, St_rem hK hS hu28⟩)) rfl (Nat.le_of_ble_eq_true rfl) (Nat.le_of_ble_eq_true rfl) dX6_bound_48
  · skip
    have hu4 := bo_t hu4 c7
    exact k_throw C hTh htab hfl rfl 0 rfl 0 rfl 1 2 rfl rfl (by decide +kernel) (by decide +kernel) (by decide +kernel) (by decide +kernel) (by decide +kernel) dX6_bound_10 dX6_bound_13 dX6_bound_14 dX6_bound_16 dX6_bound_19 (Nat.le_of_ble_eq_true rfl) (Nat.le_of_ble_eq_true rfl) (Nat.le_of_ble_eq_true rfl) (Nat.le_of_ble_eq_true rfl) () rfl (by first | trivial | omega) rfl
theorem in_X6_again_X6 : ∀ w ∈ wsX60, w ∈ wsX6_again := by decide +kernel
theorem in_X6_again_X0 : ∀ w ∈ wsX00, w ∈ wsX6_again := by decide +kernel
set_option maxHeartbeats 4000000 in
set_option maxRecDepth 100000 in
theorem c_X6_again (l : Launch) (G : KG) (sc tx so pr b2 bo ca ss b t : Nat) (nw rb tl bd cm sk : Int) (fb fc fk : Nat → Int) (R : List (Nat × Nat × Nat)) (sv : Nat → Option (Nat × Nat × Nat)) (n k m : Nat) (hS : BdS n k m bd cm sk) (hK : StOK R sv nw rb fb fc fk) : Ct l G yX6_again wsX6_again (rmD 6 0 0) [.ref sc] [(sc, .inr (5, [.ref tx, .ref b, .ref so, .ref pr, .ref b2])), (b, .inr (0, [.ref t, .int (iI tl), .int (iI bd), .int (iI cm), .long (jL sk)])), (so, .inr (2, [.ref bo, .ref ca, .ref ss, .int (iI nw), .int (iI rb)])), (bo, .inl (g_I G, 16, .inl (aI fb))), (ca, .inl (g_I G, 16, .inl (aI fc))), (ss, .inl (g_J G, 16, .inr (.inl (aL fk))))] (fun u : Int × Int × Int × (Nat → Int) × (Nat → Int) × (Nat → Int) => u.1 = (k : Int) ∧ StOK (((n, k, m) :: R).take 14) sv u.2.1 u.2.2.1 u.2.2.2.1 u.2.2.2.2.1 u.2.2.2.2.2) (fun u : Int × Int × Int × (Nat → Int) × (Nat → Int) × (Nat → Int) => some (.int (iI u.1))) (fun u : Int × Int × Int × (Nat → Int) × (Nat → Int) × (Nat → Int) => [(sc, .inr (5, [.ref tx, .ref b, .ref so, .ref pr, .ref b2])), (b, .inr (0, [.ref t, .int (iI (-1)), .int (iI bd), .int (iI 0), .long (jL 0)])), (so, .inr (2, [.ref bo, .ref ca, .ref ss, .int (iI u.2.1), .int (iI u.2.2.1)])), (bo, .inl (g_I G, 16, .inl (aI u.2.2.2.1))), (ca, .inl (g_I G, 16, .inl (aI u.2.2.2.2.1))), (ss, .inl (g_J G, 16, .inr (.inl (aL u.2.2.2.2.2))))]) := by
  refine Ct.of (cc := cX6_again) (maxL := 2) (ret := (some .int)) (by decide +kernel) rfl (Nat.le_of_ble_eq_true rfl) ?_
  intro X C hG hL hnm hR
  subst hG
  subst hL
  have C : Cx X cX6_again RX6 wsX6_again (some .int) 2 (rmD 6 0 0) := C
  obtain ⟨s1, s2, s3, s4, s5, s6, s7⟩ := id hS
  obtain ⟨r1, r2, r3, r4⟩ := St_rng hK
  show K_ X 0 0 [(sc, .inr (5, [.ref tx, .ref b, .ref so, .ref pr, .ref b2])), (b, .inr (0, [.ref t, .int (iI tl), .int (iI bd), .int (iI cm), .long (jL sk)])), (so, .inr (2, [.ref bo, .ref ca, .ref ss, .int (iI nw), .int (iI rb)])), (bo, .inl (g_I (x_G X), 16, .inl (aI fb))), (ca, .inl (g_I (x_G X), 16, .inl (aI fc))), (ss, .inl (g_J (x_G X), 16, .inr (.inl (aL fk))))] 0 [(0, .ref sc)] []
  refine k_aload_n C 0 rfl dX6_again_0 rfl ?_
  refine k_get C (Cn := RX6) (T := TX6) (N := 5) (ci := 5) (ref := "StruckCounts") in_X6_again_X6 0 rfl rfl 2 (by decide) 1 rfl rfl (v := .ref so) rfl dX6_again_1 ?_
  refine k_aload_n C 0 rfl dX6_again_4 rfl ?_
  refine k_get C (Cn := RX6) (T := TX6) (N := 5) (ci := 5) (ref := "StruckCounts") in_X6_again_X6 0 rfl rfl 1 (by decide) 2 rfl rfl (v := .ref b) rfl dX6_again_5 ?_
  refine k_callV C (y := yX2_remember) [.ref b] 1 rfl (c_X2_remember (x_l X) (x_G X) so bo ca ss nw rb b t tl bd cm sk fb fc fk (by omega) (by omega)) gX6_again_X2_remember rfl ⟨rfl, by decide +kernel, by decide +kernel, by decide +kernel⟩ ⟨by decide, by decide⟩ 2 (fs := [.ref bo, .ref ca, .ref ss, .int (iI nw), .int (iI rb)]) rfl rfl rfl [2, 3, 4, 5, 1] (by decide) (wc := [(so, .inr (2, [.ref bo, .ref ca, .ref ss, .int (iI nw), .int (iI rb)])), (bo, .inl (g_I (x_G X), 16, .inl (aI fb))), (ca, .inl (g_I (x_G X), 16, .inl (aI fc))), (ss, .inl (g_J (x_G X), 16, .inr (.inl (aL fk)))), (b, .inr (0, [.ref t, .int (iI tl), .int (iI bd), .int (iI cm), .long (jL sk)]))]) rfl [] rfl (Nat.le_of_ble_eq_true rfl) ⟨Nat.le_of_ble_eq_true rfl, Nat.le_of_ble_eq_true rfl⟩ dX6_again_8 (fun u8 => [(sc, .inr (5, [.ref tx, .ref b, .ref so, .ref pr, .ref b2])), (b, .inr (0, [.ref t, .int (iI tl), .int (iI bd), .int (iI cm), .long (jL sk)])), (so, .inr (2, [.ref bo, .ref ca, .ref ss, .int (iI u8.1), .int (iI u8.2.1)])), (bo, .inl (g_I (x_G X), 16, .inl (aI u8.2.2.1))), (ca, .inl (g_I (x_G X), 16, .inl (aI u8.2.2.2.1))), (ss, .inl (g_J (x_G X), 16, .inr (.inl (aL u8.2.2.2.2))))]) (Or.inr ⟨[0], [0, 5, 1, 2, 3, 4], [(sc, .inr (5, [.ref tx, .ref b, .ref so, .ref pr, .ref b2]))], rfl, by decide, by decide, by decide, fun _ => rfl⟩) (fun u8 => []) (fun _ => rfl) 0 0 ⟨rfl, rfl⟩ (fun u8 hu8 => ?_)
  refine k_aload_n C 0 rfl dX6_again_11 rfl ?_
  refine k_get C (Cn := RX6) (T := TX6) (N := 5) (ci := 5) (ref := "StruckCounts") in_X6_again_X6 0 rfl rfl 1 (by decide) 2 rfl rfl (v := .ref b) rfl dX6_again_12 ?_
  refine k_getN C (Cn := RX0) (T := TX0) (N := 5) (ci := 0) (ref := "StruckCounts$Board") in_X6_again_X0 1 rfl rfl 3 (by decide) 3 rfl rfl (v := .int (iI cm)) rfl dX6_again_15 ?_
  refine k_istore_n C (lo' := [(1, .int (iI cm)), (0, .ref sc)]) dX6_again_18 rfl (by decide) rfl ?_
  refine k_aload_n C 1 rfl dX6_again_19 rfl ?_
  refine k_get C (Cn := RX6) (T := TX6) (N := 5) (ci := 5) (ref := "StruckCounts") in_X6_again_X6 0 rfl rfl 1 (by decide) 2 rfl rfl (v := .ref b) rfl dX6_again_20 ?_
  refine k_aload_n C 1 rfl dX6_again_23 rfl ?_
  refine k_get C (Cn := RX6) (T := TX6) (N := 5) (ci := 5) (ref := "StruckCounts") in_X6_again_X6 0 rfl rfl 1 (by decide) 2 rfl rfl (v := .ref b) rfl dX6_again_24 ?_
  refine k_getN C (Cn := RX0) (T := TX0) (N := 5) (ci := 0) (ref := "StruckCounts$Board") in_X6_again_X0 1 rfl rfl 2 (by decide) 1 rfl rfl (v := .int (iI bd)) rfl dX6_again_27 ?_
  refine k_callV C (y := yX0_begin) [.int (iI bd)] 1 rfl (c_X0_begin (x_l X) (x_G X) b t tl bd cm sk bd ) gX6_again_X0_begin rfl ⟨rfl, by decide +kernel, by decide +kernel, by decide +kernel⟩ ⟨by decide, by decide⟩ 1 (fs := [.ref t, .int (iI tl), .int (iI bd), .int (iI cm), .long (jL sk)]) rfl rfl rfl [1] (by decide) (wc := [(b, .inr (0, [.ref t, .int (iI tl), .int (iI bd), .int (iI cm), .long (jL sk)]))]) rfl [] rfl (Nat.le_of_ble_eq_true rfl) ⟨Nat.le_of_ble_eq_true rfl, Nat.le_of_ble_eq_true rfl⟩ dX6_again_30 (fun u30 => [(sc, .inr (5, [.ref tx, .ref b, .ref so, .ref pr, .ref b2])), (b, .inr (0, [.ref t, .int (iI (-1)), .int (iI bd), .int (iI 0), .long (jL 0)])), (so, .inr (2, [.ref bo, .ref ca, .ref ss, .int (iI u8.1), .int (iI u8.2.1)])), (bo, .inl (g_I (x_G X), 16, .inl (aI u8.2.2.1))), (ca, .inl (g_I (x_G X), 16, .inl (aI u8.2.2.2.1))), (ss, .inl (g_J (x_G X), 16, .inr (.inl (aL u8.2.2.2.2))))]) (Or.inr ⟨[0, 2, 3, 4, 5], [0, 5, 1, 2, 3, 4], [(sc, .inr (5, [.ref tx, .ref b, .ref so, .ref pr, .ref b2])), (so, .inr (2, [.ref bo, .ref ca, .ref ss, .int (iI u8.1), .int (iI u8.2.1)])), (bo, .inl (g_I (x_G X), 16, .inl (aI u8.2.2.1))), (ca, .inl (g_I (x_G X), 16, .inl (aI u8.2.2.2.1))), (ss, .inl (g_J (x_G X), 16, .inr (.inl (aL u8.2.2.2.2))))], rfl, by decide, by decide, by decide, fun _ => rfl⟩) (fun u30 => []) (fun _ => rfl) 0 0 ⟨rfl, rfl⟩ (fun u30 hu30 => ?_)
  refine k_iload_n C 0 rfl dX6_again_33 rfl ?_
  exact k_iret C hR (u := (cm, u8.1, u8.2.1, u8.2.2.1, u8.2.2.2.1, u8.2.2.2.2)) rfl (by (try dsimp only) <;> exact (⟨s2, St_rem hK hS hu8⟩)) rfl (Nat.le_of_ble_eq_true rfl) (Nat.le_of_ble_eq_true rfl) dX6_again_34
theorem in_X6_spare_X6 : ∀ w ∈ wsX60, w ∈ wsX6_spare := by decide +kernel
set_option maxHeartbeats 4000000 in
set_option maxRecDepth 100000 in
theorem c_X6_spare (l : Launch) (G : KG) (sc tx so pr b2 bo ca ss b t : Nat) (nw rb tl bd cm sk : Int) (fb fc fk : Nat → Int) (R : List (Nat × Nat × Nat)) (sv : Nat → Option (Nat × Nat × Nat)) (n k m : Nat) (hS : BdS n k m bd cm sk) (hK : StOK R sv nw rb fb fc fk) (hfl : l.stackTraces = false) : Cxt l G yX6_spare wsX6_spare (rmD 7 1 6) [.ref sc] [(sc, .inr (5, [.ref tx, .ref b, .ref so, .ref pr, .ref b2])), (b, .inr (0, [.ref t, .int (iI tl), .int (iI bd), .int (iI cm), .long (jL sk)])), (so, .inr (2, [.ref bo, .ref ca, .ref ss, .int (iI nw), .int (iI rb)])), (bo, .inl (g_I G, 16, .inl (aI fb))), (ca, .inl (g_I G, 16, .inl (aI fc))), (ss, .inl (g_J G, 16, .inr (.inl (aL fk))))] (fun u : Int × Int × Int × Int × (Nat → Int) × (Nat → Int) × (Nat → Int) => ¬ nxI n k = -1 ∧ u.1 = nxI n k ∧ BdS n (k + 1) m bd u.2.1 sk ∧ StOK (((n, k, m) :: R).take 14) sv u.2.2.1 u.2.2.2.1 u.2.2.2.2.1 u.2.2.2.2.2.1 u.2.2.2.2.2.2) (fun u : Int × Int × Int × Int × (Nat → Int) × (Nat → Int) × (Nat → Int) => some (.int (iI u.1))) (fun u : Int × Int × Int × Int × (Nat → Int) × (Nat → Int) × (Nat → Int) => [(sc, .inr (5, [.ref tx, .ref b, .ref so, .ref pr, .ref b2])), (b, .inr (0, [.ref t, .int (iI tl), .int (iI bd), .int (iI u.2.1), .long (jL sk)])), (so, .inr (2, [.ref bo, .ref ca, .ref ss, .int (iI u.2.2.1), .int (iI u.2.2.2.1)])), (bo, .inl (g_I G, 16, .inl (aI u.2.2.2.2.1))), (ca, .inl (g_I G, 16, .inl (aI u.2.2.2.2.2.1))), (ss, .inl (g_J G, 16, .inr (.inl (aL u.2.2.2.2.2.2))))]) (fun v : Unit => nxI n k = -1) (fun v : Unit => "java/lang/IllegalStateException") (fun v : Unit => [(sc, .inr (5, [.ref tx, .ref b, .ref so, .ref pr, .ref b2])), (b, .inr (0, [.ref t, .int (iI tl), .int (iI bd), .int (iI cm), .long (jL sk)])), (so, .inr (2, [.ref bo, .ref ca, .ref ss, .int (iI nw), .int (iI rb)])), (bo, .inl (g_I G, 16, .inl (aI fb))), (ca, .inl (g_I G, 16, .inl (aI fc))), (ss, .inl (g_J G, 16, .inr (.inl (aL fk))))]) := by
  refine Cxt.of (cc := cX6_spare) (maxL := 2) (ret := (some .int)) (by decide +kernel) rfl (Nat.le_of_ble_eq_true rfl) ?_
  intro X C hG hL hnm hR hQ htab
  subst hG
  subst hL
  have C : Cx X cX6_spare RX6 wsX6_spare (some .int) 2 (rmD 7 1 6) := C
  have hTh : Thr X (fun v : Unit => nxI n k = -1) (fun v : Unit => "java/lang/IllegalStateException") (fun v : Unit => [(sc, .inr (5, [.ref tx, .ref b, .ref so, .ref pr, .ref b2])), (b, .inr (0, [.ref t, .int (iI tl), .int (iI bd), .int (iI cm), .long (jL sk)])), (so, .inr (2, [.ref bo, .ref ca, .ref ss, .int (iI nw), .int (iI rb)])), (bo, .inl (g_I (x_G X), 16, .inl (aI fb))), (ca, .inl (g_I (x_G X), 16, .inl (aI fc))), (ss, .inl (g_J (x_G X), 16, .inr (.inl (aL fk))))]) := ⟨_, by rw [C.R]; exact hQ⟩
  obtain ⟨s1, s2, s3, s4, s5, s6, s7⟩ := id hS
  obtain ⟨r1, r2, r3, r4⟩ := St_rng hK
  show K_ X 0 0 [(sc, .inr (5, [.ref tx, .ref b, .ref so, .ref pr, .ref b2])), (b, .inr (0, [.ref t, .int (iI tl), .int (iI bd), .int (iI cm), .long (jL sk)])), (so, .inr (2, [.ref bo, .ref ca, .ref ss, .int (iI nw), .int (iI rb)])), (bo, .inl (g_I (x_G X), 16, .inl (aI fb))), (ca, .inl (g_I (x_G X), 16, .inl (aI fc))), (ss, .inl (g_J (x_G X), 16, .inr (.inl (aL fk))))] 0 [(0, .ref sc)] []
  refine k_aload_n C 0 rfl dX6_spare_0 rfl ?_
  refine k_callVx C hTh htab (y := yX6_checkNextPrime) [] 0 rfl (c_X6_checkNextPrime (x_l X) (x_G X) sc tx so pr b2 b t tl bd cm sk n k m (by assumption) (hfl)) gX6_spare_X6_checkNextPrime rfl ⟨rfl, by decide +kernel, by decide +kernel, by decide +kernel⟩ ⟨by decide, by decide⟩ 0 (fs := [.ref tx, .ref b, .ref so, .ref pr, .ref b2]) rfl rfl rfl [0, 1] [2, 3, 4, 5] [4, 5, 0, 1, 2, 3] (by decide) (wc := [(sc, .inr (5, [.ref tx, .ref b, .ref so, .ref pr, .ref b2])), (b, .inr (0, [.ref t, .int (iI tl), .int (iI bd), .int (iI cm), .long (jL sk)]))]) rfl [] rfl (Nat.le_of_ble_eq_true rfl) ⟨Nat.le_of_ble_eq_true rfl, Nat.le_of_ble_eq_true rfl⟩ dX6_spare_1 (fun u1 => [(sc, .inr (5, [.ref tx, .ref b, .ref so, .ref pr, .ref b2])), (b, .inr (0, [.ref t, .int (iI tl), .int (iI bd), .int (iI cm), .long (jL sk)])), (so, .inr (2, [.ref bo, .ref ca, .ref ss, .int (iI nw), .int (iI rb)])), (bo, .inl (g_I (x_G X), 16, .inl (aI fb))), (ca, .inl (g_I (x_G X), 16, .inl (aI fc))), (ss, .inl (g_J (x_G X), 16, .inr (.inl (aL fk))))]) (fun v => [(sc, .inr (5, [.ref tx, .ref b, .ref so, .ref pr, .ref b2])), (b, .inr (0, [.ref t, .int (iI tl), .int (iI bd), .int (iI cm), .long (jL sk)])), (so, .inr (2, [.ref bo, .ref ca, .ref ss, .int (iI nw), .int (iI rb)])), (bo, .inl (g_I (x_G X), 16, .inl (aI fb))), (ca, .inl (g_I (x_G X), 16, .inl (aI fc))), (ss, .inl (g_J (x_G X), 16, .inr (.inl (aL fk))))]) (wr := [(so, .inr (2, [.ref bo, .ref ca, .ref ss, .int (iI nw), .int (iI rb)])), (bo, .inl (g_I (x_G X), 16, .inl (aI fb))), (ca, .inl (g_I (x_G X), 16, .inl (aI fc))), (ss, .inl (g_J (x_G X), 16, .inr (.inl (aL fk))))]) rfl (by decide) (by decide) (by decide) (fun _ => rfl) (fun _ => rfl) (fun u1 => []) (fun _ => rfl) 1 6 ⟨rfl, rfl⟩ (fun v hv => ⟨v, rfl, hv, rfl⟩) (fun u1 hu1 => ?_)
  refine k_aload_n C 0 rfl dX6_spare_4 rfl ?_
  refine k_get C (Cn := RX6) (T := TX6) (N := 5) (ci := 5) (ref := "StruckCounts") in_X6_spare_X6 0 rfl rfl 2 (by decide) 1 rfl rfl (v := .ref so) rfl dX6_spare_5 ?_
  refine k_aload_n C 0 rfl dX6_spare_8 rfl ?_
  refine k_get C (Cn := RX6) (T := TX6) (N := 5) (ci := 5) (ref := "StruckCounts") in_X6_spare_X6 0 rfl rfl 1 (by decide) 2 rfl rfl (v := .ref b) rfl dX6_spare_9 ?_
  refine k_callV C (y := yX2_remember) [.ref b] 1 rfl (c_X2_remember (x_l X) (x_G X) so bo ca ss nw rb b t tl bd cm sk fb fc fk (by omega) (by omega)) gX6_spare_X2_remember rfl ⟨rfl, by decide +kernel, by decide +kernel, by decide +kernel⟩ ⟨by decide, by decide⟩ 2 (fs := [.ref bo, .ref ca, .ref ss, .int (iI nw), .int (iI rb)]) rfl rfl rfl [2, 3, 4, 5, 1] (by decide) (wc := [(so, .inr (2, [.ref bo, .ref ca, .ref ss, .int (iI nw), .int (iI rb)])), (bo, .inl (g_I (x_G X), 16, .inl (aI fb))), (ca, .inl (g_I (x_G X), 16, .inl (aI fc))), (ss, .inl (g_J (x_G X), 16, .inr (.inl (aL fk)))), (b, .inr (0, [.ref t, .int (iI tl), .int (iI bd), .int (iI cm), .long (jL sk)]))]) rfl [] rfl (Nat.le_of_ble_eq_true rfl) ⟨Nat.le_of_ble_eq_true rfl, Nat.le_of_ble_eq_true rfl⟩ dX6_spare_12 (fun u12 => [(sc, .inr (5, [.ref tx, .ref b, .ref so, .ref pr, .ref b2])), (b, .inr (0, [.ref t, .int (iI tl), .int (iI bd), .int (iI cm), .long (jL sk)])), (so, .inr (2, [.ref bo, .ref ca, .ref ss, .int (iI u12.1), .int (iI u12.2.1)])), (bo, .inl (g_I (x_G X), 16, .inl (aI u12.2.2.1))), (ca, .inl (g_I (x_G X), 16, .inl (aI u12.2.2.2.1))), (ss, .inl (g_J (x_G X), 16, .inr (.inl (aL u12.2.2.2.2))))]) (Or.inr ⟨[0], [0, 5, 1, 2, 3, 4], [(sc, .inr (5, [.ref tx, .ref b, .ref so, .ref pr, .ref b2]))], rfl, by decide, by decide, by decide, fun _ => rfl⟩) (fun u12 => []) (fun _ => rfl) 1 6 ⟨rfl, rfl⟩ (fun u12 hu12 => ?_)
  refine k_aload_n C 0 rfl dX6_spare_15 rfl ?_
  refine k_get C (Cn := RX6) (T := TX6) (N := 5) (ci := 5) (ref := "StruckCounts") in_X6_spare_X6 0 rfl rfl 1 (by decide) 2 rfl rfl (v := .ref b) rfl dX6_spare_16 ?_
  refine k_callV C (y := yX0_nextPrime) [] 0 rfl (c_X0_nextPrime (x_l X) (x_G X) b t tl bd cm sk n k m (by assumption)) gX6_spare_X0_nextPrime rfl ⟨rfl, by decide +kernel, by decide +kernel, by decide +kernel⟩ ⟨by decide, by decide⟩ 1 (fs := [.ref t, .int (iI tl), .int (iI bd), .int (iI cm), .long (jL sk)]) rfl rfl rfl [1] (by decide) (wc := [(b, .inr (0, [.ref t, .int (iI tl), .int (iI bd), .int (iI cm), .long (jL sk)]))]) rfl [] rfl (Nat.le_of_ble_eq_true rfl) ⟨Nat.le_of_ble_eq_true rfl, Nat.le_of_ble_eq_true rfl⟩ dX6_spare_19 (fun _ => [(sc, .inr (5, [.ref tx, .ref b, .ref so, .ref pr, .ref b2])), (b, .inr (0, [.ref t, .int (iI tl), .int (iI bd), .int (iI cm), .long (jL sk)])), (so, .inr (2, [.ref bo, .ref ca, .ref ss, .int (iI u12.1), .int (iI u12.2.1)])), (bo, .inl (g_I (x_G X), 16, .inl (aI u12.2.2.1))), (ca, .inl (g_I (x_G X), 16, .inl (aI u12.2.2.2.1))), (ss, .inl (g_J (x_G X), 16, .inr (.inl (aL u12.2.2.2.2))))]) (Or.inl (fun _ => ⟨rfl, rfl⟩)) (fun u19 => [.int (iI u19)]) (fun _ => rfl) 1 6 ⟨rfl, rfl⟩ (fun u19 hu19 => ?_)
  refine k_istore_n C (lo' := [(1, .int (iI u19)), (0, .ref sc)]) dX6_spare_22 rfl (by decide) rfl ?_
  refine k_aload_n C 1 rfl dX6_spare_23 rfl ?_
  refine k_get C (Cn := RX6) (T := TX6) (N := 5) (ci := 5) (ref := "StruckCounts") in_X6_spare_X6 0 rfl rfl 1 (by decide) 2 rfl rfl (v := .ref b) rfl dX6_spare_24 ?_
  refine k_iconst C dX6_spare_27 ?_
  refine k_callV C (y := yX0_letCome) [.int (iI 0)] 1 rfl (c_X0_letCome (x_l X) (x_G X) b t tl bd cm sk 0 n k m (by first | assumption | exact Or.inl rfl) (by first | assumption | exact Or.inl rfl)) gX6_spare_X0_letCome rfl ⟨rfl, by decide +kernel, by decide +kernel, by decide +kernel⟩ ⟨by decide, by decide⟩ 1 (fs := [.ref t, .int (iI tl), .int (iI bd), .int (iI cm), .long (jL sk)]) rfl rfl rfl [1] (by decide) (wc := [(b, .inr (0, [.ref t, .int (iI tl), .int (iI bd), .int (iI cm), .long (jL sk)]))]) rfl [] rfl (Nat.le_of_ble_eq_true rfl) ⟨Nat.le_of_ble_eq_true rfl, Nat.le_of_ble_eq_true rfl⟩ dX6_spare_28 (fun u28 => [(sc, .inr (5, [.ref tx, .ref b, .ref so, .ref pr, .ref b2])), (b, .inr (0, [.ref t, .int (iI tl), .int (iI bd), .int (iI u28.2.1), .long (jL u28.2.2)])), (so, .inr (2, [.ref bo, .ref ca, .ref ss, .int (iI u12.1), .int (iI u12.2.1)])), (bo, .inl (g_I (x_G X), 16, .inl (aI u12.2.2.1))), (ca, .inl (g_I (x_G X), 16, .inl (aI u12.2.2.2.1))), (ss, .inl (g_J (x_G X), 16, .inr (.inl (aL u12.2.2.2.2))))]) (Or.inr ⟨[0, 2, 3, 4, 5], [0, 5, 1, 2, 3, 4], [(sc, .inr (5, [.ref tx, .ref b, .ref so, .ref pr, .ref b2])), (so, .inr (2, [.ref bo, .ref ca, .ref ss, .int (iI u12.1), .int (iI u12.2.1)])), (bo, .inl (g_I (x_G X), 16, .inl (aI u12.2.2.1))), (ca, .inl (g_I (x_G X), 16, .inl (aI u12.2.2.2.1))), (ss, .inl (g_J (x_G X), 16, .inr (.inl (aL u12.2.2.2.2))))], rfl, by decide, by decide, by decide, fun _ => rfl⟩) (fun u28 => [.int (iI u28.1)]) (fun _ => rfl) 1 6 ⟨rfl, rfl⟩ (fun u28 hu28 => ?_)
  obtain ⟨z1, z2, z3, z4⟩ := hu28.resolve_left (fun z => hu1 z.1)
  rw [if_pos rfl] at z4
  have e4 : u28.2.2 = sk := by rw [z4, s3]
  rw [show u28.2.2 = sk from e4]
  refine k_pop C dX6_spare_31 rfl ?_
  refine k_iload_n C 0 rfl dX6_spare_32 rfl ?_
  exact k_iret C hR (u := (u19, u28.2.1, u12.1, u12.2.1, u12.2.2.1, u12.2.2.2.1, u12.2.2.2.2)) rfl (by (try dsimp only) <;> exact (⟨hu1, hu19, by have := BdS_next hS (s := 0) (cm2 := u28.2.1) (sk2 := sk) (nxI_some hu1).1 z3 (by rw [if_pos rfl]; exact s3); rw [if_pos rfl] at this; exact this, St_rem hK hS hu12⟩)) rfl (Nat.le_of_ble_eq_true rfl) (Nat.le_of_ble_eq_true rfl) dX6_spare_33
theorem in_X6_strikeTo_X6 : ∀ w ∈ wsX60, w ∈ wsX6_strikeTo := by decide +kernel
set_option maxHeartbeats 4000000 in
set_option maxRecDepth 100000 in
theorem c_X6_strikeTo (l : Launch) (G : KG) (sc tx so pr b2 bo ca ss b t : Nat) (nw rb tl bd cm sk : Int) (fb fc fk : Nat → Int) (R : List (Nat × Nat × Nat)) (sv : Nat → Option (Nat × Nat × Nat)) (n k m : Nat) (x : Int) (hS : BdS n k m bd cm sk) (hK : StOK R sv nw rb fb fc fk) (hx : -2147483648 ≤ x ∧ x < 2147483648) (hfl : l.stackTraces = false) : Cxt l G yX6_strikeTo wsX6_strikeTo (rmD 7 1 6) [.ref sc, .int (iI x)] [(sc, .inr (5, [.ref tx, .ref b, .ref so, .ref pr, .ref b2])), (b, .inr (0, [.ref t, .int (iI tl), .int (iI bd), .int (iI cm), .long (jL sk)])), (so, .inr (2, [.ref bo, .ref ca, .ref ss, .int (iI nw), .int (iI rb)])), (bo, .inl (g_I G, 16, .inl (aI fb))), (ca, .inl (g_I G, 16, .inl (aI fc))), (ss, .inl (g_J G, 16, .inr (.inl (aL fk))))] (fun u : Int × Int × Int × Int × Int × (Nat → Int) × (Nat → Int) × (Nat → Int) => (0 ≤ x ∧ x ≤ 99999) ∧ u.1 = (sj n x k : Int) ∧ BdS n (k + sj n x k) (msk m k (sj n x k)) bd u.2.1 u.2.2.1 ∧ StOK (((n, k, m) :: R).take 14) sv u.2.2.2.1 u.2.2.2.2.1 u.2.2.2.2.2.1 u.2.2.2.2.2.2.1 u.2.2.2.2.2.2.2) (fun u : Int × Int × Int × Int × Int × (Nat → Int) × (Nat → Int) × (Nat → Int) => some (.int (iI u.1))) (fun u : Int × Int × Int × Int × Int × (Nat → Int) × (Nat → Int) × (Nat → Int) => [(sc, .inr (5, [.ref tx, .ref b, .ref so, .ref pr, .ref b2])), (b, .inr (0, [.ref t, .int (iI tl), .int (iI bd), .int (iI u.2.1), .long (jL u.2.2.1)])), (so, .inr (2, [.ref bo, .ref ca, .ref ss, .int (iI u.2.2.2.1), .int (iI u.2.2.2.2.1)])), (bo, .inl (g_I G, 16, .inl (aI u.2.2.2.2.2.1))), (ca, .inl (g_I G, 16, .inl (aI u.2.2.2.2.2.2.1))), (ss, .inl (g_J G, 16, .inr (.inl (aL u.2.2.2.2.2.2.2))))]) (fun v : Unit => ¬ (0 ≤ x ∧ x ≤ 99999)) (fun v : Unit => "java/lang/IllegalArgumentException") (fun v : Unit => [(sc, .inr (5, [.ref tx, .ref b, .ref so, .ref pr, .ref b2])), (b, .inr (0, [.ref t, .int (iI tl), .int (iI bd), .int (iI cm), .long (jL sk)])), (so, .inr (2, [.ref bo, .ref ca, .ref ss, .int (iI nw), .int (iI rb)])), (bo, .inl (g_I G, 16, .inl (aI fb))), (ca, .inl (g_I G, 16, .inl (aI fc))), (ss, .inl (g_J G, 16, .inr (.inl (aL fk))))]) := by
  refine Cxt.of (cc := cX6_strikeTo) (maxL := 2) (ret := (some .int)) (by decide +kernel) rfl (Nat.le_of_ble_eq_true rfl) ?_
  intro X C hG hL hnm hR hQ htab
  subst hG
  subst hL
  have C : Cx X cX6_strikeTo RX6 wsX6_strikeTo (some .int) 2 (rmD 7 1 6) := C
  have hTh : Thr X (fun v : Unit => ¬ (0 ≤ x ∧ x ≤ 99999)) (fun v : Unit => "java/lang/IllegalArgumentException") (fun v : Unit => [(sc, .inr (5, [.ref tx, .ref b, .ref so, .ref pr, .ref b2])), (b, .inr (0, [.ref t, .int (iI tl), .int (iI bd), .int (iI cm), .long (jL sk)])), (so, .inr (2, [.ref bo, .ref ca, .ref ss, .int (iI nw), .int (iI rb)])), (bo, .inl (g_I (x_G X), 16, .inl (aI fb))), (ca, .inl (g_I (x_G X), 16, .inl (aI fc))), (ss, .inl (g_J (x_G X), 16, .inr (.inl (aL fk))))]) := ⟨_, by rw [C.R]; exact hQ⟩
  obtain ⟨s1, s2, s3, s4, s5, s6, s7⟩ := id hS
  obtain ⟨r1, r2, r3, r4⟩ := St_rng hK
  show K_ X 0 0 [(sc, .inr (5, [.ref tx, .ref b, .ref so, .ref pr, .ref b2])), (b, .inr (0, [.ref t, .int (iI tl), .int (iI bd), .int (iI cm), .long (jL sk)])), (so, .inr (2, [.ref bo, .ref ca, .ref ss, .int (iI nw), .int (iI rb)])), (bo, .inl (g_I (x_G X), 16, .inl (aI fb))), (ca, .inl (g_I (x_G X), 16, .inl (aI fc))), (ss, .inl (g_J (x_G X), 16, .inr (.inl (aL fk))))] 0 [(0, .ref sc), (1, .int (iI x))] []
  refine k_iload_n C 1 rfl dX6_strikeTo_0 rfl ?_
  refine k_iconst C dX6_strikeTo_1 ?_
  refine k_ldc C 99999 3 rfl (by decide) dX6_strikeTo_2 ?_
  refine k_callS C (y := yX6_outside) [.int (iI x), .int (iI 0), .int (iI 99999)] 3 rfl (c_X6_outside (x_l X) (x_G X) x 0 99999 (by omega) (by omega) (by omega)) gX6_strikeTo_X6_outside rfl ⟨by decide +kernel, by decide +kernel, by decide +kernel⟩ ⟨by decide, by decide⟩ [] (by decide) (wc := []) rfl [] rfl (Nat.le_of_ble_eq_true rfl) ⟨Nat.le_of_ble_eq_true rfl, Nat.le_of_ble_eq_true rfl⟩ dX6_strikeTo_4 (fun _ => [(sc, .inr (5, [.ref tx, .ref b, .ref so, .ref pr, .ref b2])), (b, .inr (0, [.ref t, .int (iI tl), .int (iI bd), .int (iI cm), .long (jL sk)])), (so, .inr (2, [.ref bo, .ref ca, .ref ss, .int (iI nw), .int (iI rb)])), (bo, .inl (g_I (x_G X), 16, .inl (aI fb))), (ca, .inl (g_I (x_G X), 16, .inl (aI fc))), (ss, .inl (g_J (x_G X), 16, .inr (.inl (aL fk))))]) (Or.inl (fun _ => ⟨rfl, rfl⟩)) (fun u4 => [.int (iI u4)]) (fun _ => rfl) 0 0 ⟨rfl, rfl⟩ (fun u4 hu4 => ?_)
  refine k_if_eq C 20 (⟨by omega, by omega⟩) dX6_strikeTo_7 (by decide) (fun c7 => ?_) (fun c7 => ?_)
  · skip
    have hu4 := bo_f hu4 c7
    refine k_aload_n C 0 rfl dX6_strikeTo_20 rfl ?_
    refine k_get C (Cn := RX6) (T := TX6) (N := 5) (ci := 5) (ref := "StruckCounts") in_X6_strikeTo_X6 0 rfl rfl 2 (by decide) 4 rfl rfl (v := .ref so) rfl dX6_strikeTo_21 ?_
    refine k_aload_n C 0 rfl dX6_strikeTo_24 rfl ?_
    refine k_get C (Cn := RX6) (T := TX6) (N := 5) (ci := 5) (ref := "StruckCounts") in_X6_strikeTo_X6 0 rfl rfl 1 (by decide) 5 rfl rfl (v := .ref b) rfl dX6_strikeTo_25 ?_
    refine k_callV C (y := yX2_remember) [.ref b] 1 rfl (c_X2_remember (x_l X) (x_G X) so bo ca ss nw rb b t tl bd cm sk fb fc fk (by omega) (by omega)) gX6_strikeTo_X2_remember rfl ⟨rfl, by decide +kernel, by decide +kernel, by decide +kernel⟩ ⟨by decide, by decide⟩ 2 (fs := [.ref bo, .ref ca, .ref ss, .int (iI nw), .int (iI rb)]) rfl rfl rfl [2, 3, 4, 5, 1] (by decide) (wc := [(so, .inr (2, [.ref bo, .ref ca, .ref ss, .int (iI nw), .int (iI rb)])), (bo, .inl (g_I (x_G X), 16, .inl (aI fb))), (ca, .inl (g_I (x_G X), 16, .inl (aI fc))), (ss, .inl (g_J (x_G X), 16, .inr (.inl (aL fk)))), (b, .inr (0, [.ref t, .int (iI tl), .int (iI bd), .int (iI cm), .long (jL sk)]))]) rfl [] rfl (Nat.le_of_ble_eq_true rfl) ⟨Nat.le_of_ble_eq_true rfl, Nat.le_of_ble_eq_true rfl⟩ dX6_strikeTo_28 (fun u28 => [(sc, .inr (5, [.ref tx, .ref b, .ref so, .ref pr, .ref b2])), (b, .inr (0, [.ref t, .int (iI tl), .int (iI bd), .int (iI cm), .long (jL sk)])), (so, .inr (2, [.ref bo, .ref ca, .ref ss, .int (iI u28.1), .int (iI u28.2.1)])), (bo, .inl (g_I (x_G X), 16, .inl (aI u28.2.2.1))), (ca, .inl (g_I (x_G X), 16, .inl (aI u28.2.2.2.1))), (ss, .inl (g_J (x_G X), 16, .inr (.inl (aL u28.2.2.2.2))))]) (Or.inr ⟨[0], [0, 5, 1, 2, 3, 4], [(sc, .inr (5, [.ref tx, .ref b, .ref so, .ref pr, .ref b2]))], rfl, by decide, by decide, by decide, fun _ => rfl⟩) (fun u28 => []) (fun _ => rfl) 0 0 ⟨rfl, rfl⟩ (fun u28 hu28 => ?_)
    refine k_aload_n C 0 rfl dX6_strikeTo_31 rfl ?_
    refine k_get C (Cn := RX6) (T := TX6) (N := 5) (ci := 5) (ref := "StruckCounts") in_X6_strikeTo_X6 0 rfl rfl 1 (by decide) 5 rfl rfl (v := .ref b) rfl dX6_strikeTo_32 ?_
    refine k_iload_n C 1 rfl dX6_strikeTo_35 rfl ?_
    refine k_callV C (y := yX0_letStrikeUpTo) [.int (iI x)] 1 rfl (c_X0_letStrikeUpTo (x_l X) (x_G X) b t tl bd cm sk x n k m (by first | assumption | omega) (by first | assumption | omega)) gX6_strikeTo_X0_letStrikeUpTo rfl ⟨rfl, by decide +kernel, by decide +kernel, by decide +kernel⟩ ⟨by decide, by decide⟩ 1 (fs := [.ref t, .int (iI tl), .int (iI bd), .int (iI cm), .long (jL sk)]) rfl rfl rfl [1] (by decide) (wc := [(b, .inr (0, [.ref t, .int (iI tl), .int (iI bd), .int (iI cm), .long (jL sk)]))]) rfl [] rfl (Nat.le_of_ble_eq_true rfl) ⟨Nat.le_of_ble_eq_true rfl, Nat.le_of_ble_eq_true rfl⟩ dX6_strikeTo_36 (fun u36 => [(sc, .inr (5, [.ref tx, .ref b, .ref so, .ref pr, .ref b2])), (b, .inr (0, [.ref t, .int (iI tl), .int (iI bd), .int (iI u36.2.1), .long (jL u36.2.2)])), (so, .inr (2, [.ref bo, .ref ca, .ref ss, .int (iI u28.1), .int (iI u28.2.1)])), (bo, .inl (g_I (x_G X), 16, .inl (aI u28.2.2.1))), (ca, .inl (g_I (x_G X), 16, .inl (aI u28.2.2.2.1))), (ss, .inl (g_J (x_G X), 16, .inr (.inl (aL u28.2.2.2.2))))]) (Or.inr ⟨[0, 2, 3, 4, 5], [0, 5, 1, 2, 3, 4], [(sc, .inr (5, [.ref tx, .ref b, .ref so, .ref pr, .ref b2])), (so, .inr (2, [.ref bo, .ref ca, .ref ss, .int (iI u28.1), .int (iI u28.2.1)])), (bo, .inl (g_I (x_G X), 16, .inl (aI u28.2.2.1))), (ca, .inl (g_I (x_G X), 16, .inl (aI u28.2.2.2.1))), (ss, .inl (g_J (x_G X), 16, .inr (.inl (aL u28.2.2.2.2))))], rfl, by decide, by decide, by decide, fun _ => rfl⟩) (fun u36 => [.int (iI u36.1)]) (fun _ => rfl) 0 0 ⟨rfl, rfl⟩ (fun u36 hu36 => ?_)
    exact k_iret C hR (u := (u36.1, u36.2.1, u36.2.2, u28.1, u28.2.1, u28.2.2.1, u28.2.2.2.1, u28.2.2.2.2)) rfl (by (try dsimp only) <;> exact (⟨by omega, hu36.1, hu36.2, St_rem hK hS hu28⟩)) rfl (Nat.le_of_ble_eq_true rfl) (Nat.le_of_ble_eq_true rfl) dX6_strikeTo_39
  · skip
    have hu4 := bo_t hu4 c7
    exact k_throw C hTh htab hfl rfl 2 rfl 0 rfl 1 2 rfl rfl (by decide +kernel) (by decide +kernel) (by decide +kernel) (by decide +kernel) (by decide +kernel) dX6_strikeTo_10 dX6_strikeTo_13 dX6_strikeTo_14 dX6_strikeTo_16 dX6_strikeTo_19 (Nat.le_of_ble_eq_true rfl) (Nat.le_of_ble_eq_true rfl) (Nat.le_of_ble_eq_true rfl) (Nat.le_of_ble_eq_true rfl) () rfl (by first | trivial | omega) rfl
theorem in_X6_undo_X6 : ∀ w ∈ wsX60, w ∈ wsX6_undo := by decide +kernel
theorem in_X6_undo_X2 : ∀ w ∈ wsX20, w ∈ wsX6_undo := by decide +kernel
set_option maxHeartbeats 4000000 in
set_option maxRecDepth 100000 in
theorem c_X6_undo (l : Launch) (G : KG) (sc tx so pr b2 bo ca ss b t : Nat) (nw rb tl bd cm sk : Int) (fb fc fk : Nat → Int) (R : List (Nat × Nat × Nat)) (sv : Nat → Option (Nat × Nat × Nat)) (n k m : Nat) (hS : BdS n k m bd cm sk) (hK : StOK R sv nw rb fb fc fk) (hfl : l.stackTraces = false) : Cxt l G yX6_undo wsX6_undo (rmD 7 1 6) [.ref sc] [(sc, .inr (5, [.ref tx, .ref b, .ref so, .ref pr, .ref b2])), (b, .inr (0, [.ref t, .int (iI tl), .int (iI bd), .int (iI cm), .long (jL sk)])), (so, .inr (2, [.ref bo, .ref ca, .ref ss, .int (iI nw), .int (iI rb)])), (bo, .inl (g_I G, 16, .inl (aI fb))), (ca, .inl (g_I G, 16, .inl (aI fc))), (ss, .inl (g_J G, 16, .inr (.inl (aL fk))))] (fun u : Int × Int × Int × Int × Int => ∃ x R2, R = x :: R2 ∧ Vld x ∧ (u.2.2.1 = (x.1 : Int) ∧ u.2.2.2.1 = (x.2.1 : Int) ∧ u.2.2.2.2 = (x.2.2 : Int)) ∧ StOK R2 sv u.1 u.2.1 fb fc fk) (fun u : Int × Int × Int × Int × Int => some (.int (iI u.2.1))) (fun u : Int × Int × Int × Int × Int => [(sc, .inr (5, [.ref tx, .ref b, .ref so, .ref pr, .ref b2])), (b, .inr (0, [.ref t, .int (iI (-1)), .int (iI u.2.2.1), .int (iI u.2.2.2.1), .long (jL u.2.2.2.2)])), (so, .inr (2, [.ref bo, .ref ca, .ref ss, .int (iI u.1), .int (iI u.2.1)])), (bo, .inl (g_I G, 16, .inl (aI fb))), (ca, .inl (g_I G, 16, .inl (aI fc))), (ss, .inl (g_J G, 16, .inr (.inl (aL fk))))]) (fun v : Unit => R = []) (fun v : Unit => "java/lang/IllegalStateException") (fun v : Unit => [(sc, .inr (5, [.ref tx, .ref b, .ref so, .ref pr, .ref b2])), (b, .inr (0, [.ref t, .int (iI tl), .int (iI bd), .int (iI cm), .long (jL sk)])), (so, .inr (2, [.ref bo, .ref ca, .ref ss, .int (iI nw), .int (iI rb)])), (bo, .inl (g_I G, 16, .inl (aI fb))), (ca, .inl (g_I G, 16, .inl (aI fc))), (ss, .inl (g_J G, 16, .inr (.inl (aL fk))))]) := by
  refine Cxt.of (cc := cX6_undo) (maxL := 1) (ret := (some .int)) (by decide +kernel) rfl (Nat.le_of_ble_eq_true rfl) ?_
  intro X C hG hL hnm hR hQ htab
  subst hG
  subst hL
  have C : Cx X cX6_undo RX6 wsX6_undo (some .int) 1 (rmD 7 1 6) := C
  have hTh : Thr X (fun v : Unit => R = []) (fun v : Unit => "java/lang/IllegalStateException") (fun v : Unit => [(sc, .inr (5, [.ref tx, .ref b, .ref so, .ref pr, .ref b2])), (b, .inr (0, [.ref t, .int (iI tl), .int (iI bd), .int (iI cm), .long (jL sk)])), (so, .inr (2, [.ref bo, .ref ca, .ref ss, .int (iI nw), .int (iI rb)])), (bo, .inl (g_I (x_G X), 16, .inl (aI fb))), (ca, .inl (g_I (x_G X), 16, .inl (aI fc))), (ss, .inl (g_J (x_G X), 16, .inr (.inl (aL fk))))]) := ⟨_, by rw [C.R]; exact hQ⟩
  obtain ⟨s1, s2, s3, s4, s5, s6, s7⟩ := id hS
  obtain ⟨r1, r2, r3, r4⟩ := St_rng hK
  show K_ X 0 0 [(sc, .inr (5, [.ref tx, .ref b, .ref so, .ref pr, .ref b2])), (b, .inr (0, [.ref t, .int (iI tl), .int (iI bd), .int (iI cm), .long (jL sk)])), (so, .inr (2, [.ref bo, .ref ca, .ref ss, .int (iI nw), .int (iI rb)])), (bo, .inl (g_I (x_G X), 16, .inl (aI fb))), (ca, .inl (g_I (x_G X), 16, .inl (aI fc))), (ss, .inl (g_J (x_G X), 16, .inr (.inl (aL fk))))] 0 [(0, .ref sc)] []
  refine k_aload_n C 0 rfl dX6_undo_0 rfl ?_
  refine k_get C (Cn := RX6) (T := TX6) (N := 5) (ci := 5) (ref := "StruckCounts") in_X6_undo_X6 0 rfl rfl 2 (by decide) 3 rfl rfl (v := .ref so) rfl dX6_undo_1 ?_
  refine k_getN C (Cn := RX2) (T := TX2) (N := 5) (ci := 2) (ref := "StruckCounts$Store") in_X6_undo_X2 2 rfl rfl 4 (by decide) 7 rfl rfl (v := .int (iI rb)) rfl dX6_undo_4 ?_
  refine k_if_ne C 20 (⟨by omega, by omega⟩) dX6_undo_7 (by decide) (fun c7 => ?_) (fun c7 => ?_)
  · skip
    refine k_aload_n C 0 rfl dX6_undo_20 rfl ?_
    refine k_get C (Cn := RX6) (T := TX6) (N := 5) (ci := 5) (ref := "StruckCounts") in_X6_undo_X6 0 rfl rfl 2 (by decide) 3 rfl rfl (v := .ref so) rfl dX6_undo_21 ?_
    refine k_aload_n C 0 rfl dX6_undo_24 rfl ?_
    refine k_get C (Cn := RX6) (T := TX6) (N := 5) (ci := 5) (ref := "StruckCounts") in_X6_undo_X6 0 rfl rfl 1 (by decide) 4 rfl rfl (v := .ref b) rfl dX6_undo_25 ?_
    refine k_callV C (y := yX2_takeBack) [.ref b] 1 rfl (c_X2_takeBack (x_l X) (x_G X) so bo ca ss nw rb b t tl bd cm sk fb fc fk (by omega) (by omega)) gX6_undo_X2_takeBack rfl ⟨rfl, by decide +kernel, by decide +kernel, by decide +kernel⟩ ⟨by decide, by decide⟩ 2 (fs := [.ref bo, .ref ca, .ref ss, .int (iI nw), .int (iI rb)]) rfl rfl rfl [2, 3, 4, 5, 1] (by decide) (wc := [(so, .inr (2, [.ref bo, .ref ca, .ref ss, .int (iI nw), .int (iI rb)])), (bo, .inl (g_I (x_G X), 16, .inl (aI fb))), (ca, .inl (g_I (x_G X), 16, .inl (aI fc))), (ss, .inl (g_J (x_G X), 16, .inr (.inl (aL fk)))), (b, .inr (0, [.ref t, .int (iI tl), .int (iI bd), .int (iI cm), .long (jL sk)]))]) rfl [] rfl (Nat.le_of_ble_eq_true rfl) ⟨Nat.le_of_ble_eq_true rfl, Nat.le_of_ble_eq_true rfl⟩ dX6_undo_28 (fun u28 => [(sc, .inr (5, [.ref tx, .ref b, .ref so, .ref pr, .ref b2])), (b, .inr (0, [.ref t, .int (iI (-1)), .int (iI u28.2.2.1), .int (iI u28.2.2.2.1), .long (jL u28.2.2.2.2)])), (so, .inr (2, [.ref bo, .ref ca, .ref ss, .int (iI u28.1), .int (iI u28.2.1)])), (bo, .inl (g_I (x_G X), 16, .inl (aI fb))), (ca, .inl (g_I (x_G X), 16, .inl (aI fc))), (ss, .inl (g_J (x_G X), 16, .inr (.inl (aL fk))))]) (Or.inr ⟨[0], [0, 5, 1, 2, 3, 4], [(sc, .inr (5, [.ref tx, .ref b, .ref so, .ref pr, .ref b2]))], rfl, by decide, by decide, by decide, fun _ => rfl⟩) (fun u28 => []) (fun _ => rfl) 0 0 ⟨rfl, rfl⟩ (fun u28 hu28 => ?_)
    refine k_aload_n C 0 rfl dX6_undo_31 rfl ?_
    refine k_get C (Cn := RX6) (T := TX6) (N := 5) (ci := 5) (ref := "StruckCounts") in_X6_undo_X6 0 rfl rfl 2 (by decide) 3 rfl rfl (v := .ref so) rfl dX6_undo_32 ?_
    refine k_getN C (Cn := RX2) (T := TX2) (N := 5) (ci := 2) (ref := "StruckCounts$Store") in_X6_undo_X2 2 rfl rfl 4 (by decide) 7 rfl rfl (v := .int (iI u28.2.1)) rfl dX6_undo_35 ?_
    exact k_iret C hR (u := (u28.1, u28.2.1, u28.2.2.1, u28.2.2.2.1, u28.2.2.2.2)) rfl (by (try dsimp only) <;> exact (St_take hK (by omega) hu28)) rfl (Nat.le_of_ble_eq_true rfl) (Nat.le_of_ble_eq_true rfl) dX6_undo_38
  · skip
    exact k_throw C hTh htab hfl rfl 3 rfl 1 rfl 1 2 rfl rfl (by decide +kernel) (by decide +kernel) (by decide +kernel) (by decide +kernel) (by decide +kernel) dX6_undo_10 dX6_undo_13 dX6_undo_14 dX6_undo_16 dX6_undo_19 (Nat.le_of_ble_eq_true rfl) (Nat.le_of_ble_eq_true rfl) (Nat.le_of_ble_eq_true rfl) (Nat.le_of_ble_eq_true rfl) () rfl (r4.mp (by omega)) rfl
end
section
def obR (n : Nat) (s : Bool) : Nat → Nat → Nat → Nat × Nat × Nat
  | 0, k, m => (k, m, 0)
  | t + 1, k, m => if nxI n k = -1 then (k, m, t + 1) else obR n s t (k + 1) (if s = true then m ||| 2 ^ k else m)
def obW (i : Nat) (x : Int) (n k m : Nat) : Nat × Nat × Nat × Nat := if i = 0 then (x.toNat, 0, 0, 0) else if i = 3 then (n, 0, 0, 0) else (n, obR n (decide (i = 1)) (max 1 x).toNat k m)
theorem obR_no {n t k m : Nat} {s : Bool} (h : nxI n k = -1) : obR n s (t + 1) k m = (k, m, t + 1) := if_pos h
theorem obR_go {n t k m : Nat} {s : Bool} (h : ¬ nxI n k = -1) : obR n s (t + 1) k m = obR n s t (k + 1) (if s = true then m ||| 2 ^ k else m) := if_neg h
theorem obW_0 {x : Int} {n k m : Nat} : obW 0 x n k m = (x.toNat, 0, 0, 0) := rfl
theorem obW_3 {x : Int} {n k m : Nat} : obW 3 x n k m = (n, 0, 0, 0) := rfl
theorem obW_r {i : Nat} {x : Int} {n k m : Nat} (h : ¬ i = 0) (h3 : ¬ i = 3) : obW i x n k m = (n, obR n (decide (i = 1)) (max 1 x).toNat k m) := by
  unfold obW; rw [if_neg h, if_neg h3]
def ObI (i : Nat) (x : Int) (n k m : Nat) (T d : Int) (kq mq : Nat) : Prop := obR n (decide (i = 1)) (T - d).toNat kq mq = obR n (decide (i = 1)) (max 1 x).toNat k m
theorem ObI_end {i n k m kq mq : Nat} {x T d : Int} (h0 : ¬ i = 0) (h3 : ¬ i = 3) (h : ObI i x n k m T d kq mq) (he : T ≤ d) : obW i x n k m = (n, kq, mq, 0) := by
  rw [obW_r h0 h3, ← h, show (T - d).toNat = 0 by omega]; rfl
theorem ObI_no {i n k m kq mq : Nat} {x T d : Int} (h0 : ¬ i = 0) (h3 : ¬ i = 3) (h : ObI i x n k m T d kq mq) (he : d < T) (hn : nxI n kq = -1) : obW i x n k m = (n, kq, mq, (T - d).toNat) := by
  rw [obW_r h0 h3, ← h, show (T - d).toNat = (T - d - 1).toNat + 1 by omega, obR_no hn]
theorem ObI_go {i n k m kq mq : Nat} {x T d d2 : Int} {s : Int} (h : ObI i x n k m T d kq mq) (he : d < T) (hn : ¬ nxI n kq = -1) (hd : d2 = d + 1) (hs : s = 0 ↔ ¬ i = 1) : ObI i x n k m T d2 (kq + 1) (if s = 0 then mq else mq ||| 2 ^ kq) := by
  unfold ObI at *
  rw [← h, show (T - d).toNat = (T - d2).toNat + 1 by omega, obR_go hn]
  by_cases e : i = 1
  · rw [if_neg (fun z => (hs.mp z) e), decide_eq_true e, if_pos rfl]
  · rw [if_pos (hs.mpr e), decide_eq_false e, if_neg (by decide)]

theorem in_X6_strike_X6 : ∀ w ∈ wsX60, w ∈ wsX6_strike := by decide +kernel
set_option maxHeartbeats 4000000 in
set_option maxRecDepth 100000 in
theorem c_X6_strike (l : Launch) (G : KG) (sc tx so pr b2 bo ca ss : Nat) (nw rb : Int) (fb fc fk : Nat → Int) (b t va re su : Nat) (tl tb ts bd cm sk : Int) (n k m : Nat) (fv fr fs : Nat → Int) (R : List (Nat × Nat × Nat)) (sv : Nat → Option (Nat × Nat × Nat)) (hS : BdS n k m bd cm sk) (hT : BdT n k m tl tb ts fv fr fs) (hK : StOK R sv nw rb fb fc fk) (hfl : l.stackTraces = false) : Cxt l G yX6_strike wsX6_strike (rmD 7 1 6) [.ref sc] [(sc, .inr (5, [.ref tx, .ref b, .ref so, .ref pr, .ref b2])), (b, .inr (0, [.ref t, .int (iI tl), .int (iI bd), .int (iI cm), .long (jL sk)])), (t, .inr (3, [.ref va, .ref re, .ref su, .int (iI tb), .int (iI ts)])), (va, .inl (g_I G, 631, .inl (aI fv))), (re, .inl (g_I G, 2524, .inl (aI fr))), (su, .inl (g_J G, 631, .inr (.inl (aL fs)))), (so, .inr (2, [.ref bo, .ref ca, .ref ss, .int (iI nw), .int (iI rb)])), (bo, .inl (g_I G, 16, .inl (aI fb))), (ca, .inl (g_I G, 16, .inl (aI fc))), (ss, .inl (g_J G, 16, .inr (.inl (aL fk))))] (fun u : Int × Int × Int × (Int × Int × Int × (Nat → Int) × (Nat → Int) × (Nat → Int)) × Int × Int × (Nat → Int) × (Nat → Int) × (Nat → Int) => ¬ nxI n k = -1 ∧ u.1 = (cA m k n : Int) - (cA (m ||| 2 ^ k) (k + 1) n : Int) ∧ BdS n (k + 1) (m ||| 2 ^ k) bd u.2.1 u.2.2.1 ∧ BdT n (k + 1) (m ||| 2 ^ k) u.2.2.2.1.1 u.2.2.2.1.2.1 u.2.2.2.1.2.2.1 u.2.2.2.1.2.2.2.1 u.2.2.2.1.2.2.2.2.1 u.2.2.2.1.2.2.2.2.2 ∧ StOK (((n, k, m) :: R).take 14) sv u.2.2.2.2.1 u.2.2.2.2.2.1 u.2.2.2.2.2.2.1 u.2.2.2.2.2.2.2.1 u.2.2.2.2.2.2.2.2) (fun u : Int × Int × Int × (Int × Int × Int × (Nat → Int) × (Nat → Int) × (Nat → Int)) × Int × Int × (Nat → Int) × (Nat → Int) × (Nat → Int) => some (.int (iI u.1))) (fun u : Int × Int × Int × (Int × Int × Int × (Nat → Int) × (Nat → Int) × (Nat → Int)) × Int × Int × (Nat → Int) × (Nat → Int) × (Nat → Int) => [(sc, .inr (5, [.ref tx, .ref b, .ref so, .ref pr, .ref b2])), (b, .inr (0, [.ref t, .int (iI u.2.2.2.1.1), .int (iI bd), .int (iI u.2.1), .long (jL u.2.2.1)])), (t, .inr (3, [.ref va, .ref re, .ref su, .int (iI u.2.2.2.1.2.1), .int (iI u.2.2.2.1.2.2.1)])), (va, .inl (g_I G, 631, .inl (aI u.2.2.2.1.2.2.2.1))), (re, .inl (g_I G, 2524, .inl (aI u.2.2.2.1.2.2.2.2.1))), (su, .inl (g_J G, 631, .inr (.inl (aL u.2.2.2.1.2.2.2.2.2)))), (so, .inr (2, [.ref bo, .ref ca, .ref ss, .int (iI u.2.2.2.2.1), .int (iI u.2.2.2.2.2.1)])), (bo, .inl (g_I G, 16, .inl (aI u.2.2.2.2.2.2.1))), (ca, .inl (g_I G, 16, .inl (aI u.2.2.2.2.2.2.2.1))), (ss, .inl (g_J G, 16, .inr (.inl (aL u.2.2.2.2.2.2.2.2))))]) (fun v : Unit => nxI n k = -1) (fun v : Unit => "java/lang/IllegalStateException") (fun v : Unit => [(sc, .inr (5, [.ref tx, .ref b, .ref so, .ref pr, .ref b2])), (b, .inr (0, [.ref t, .int (iI tl), .int (iI bd), .int (iI cm), .long (jL sk)])), (t, .inr (3, [.ref va, .ref re, .ref su, .int (iI tb), .int (iI ts)])), (va, .inl (g_I G, 631, .inl (aI fv))), (re, .inl (g_I G, 2524, .inl (aI fr))), (su, .inl (g_J G, 631, .inr (.inl (aL fs)))), (so, .inr (2, [.ref bo, .ref ca, .ref ss, .int (iI nw), .int (iI rb)])), (bo, .inl (g_I G, 16, .inl (aI fb))), (ca, .inl (g_I G, 16, .inl (aI fc))), (ss, .inl (g_J G, 16, .inr (.inl (aL fk))))]) := by
  refine Cxt.of (cc := cX6_strike) (maxL := 2) (ret := (some .int)) (by decide +kernel) rfl (Nat.le_of_ble_eq_true rfl) ?_
  intro X C hG hL hnm hR hQ htab
  subst hG
  subst hL
  have C : Cx X cX6_strike RX6 wsX6_strike (some .int) 2 (rmD 7 1 6) := C
  have hTh : Thr X (fun v : Unit => nxI n k = -1) (fun v : Unit => "java/lang/IllegalStateException") (fun v : Unit => [(sc, .inr (5, [.ref tx, .ref b, .ref so, .ref pr, .ref b2])), (b, .inr (0, [.ref t, .int (iI tl), .int (iI bd), .int (iI cm), .long (jL sk)])), (t, .inr (3, [.ref va, .ref re, .ref su, .int (iI tb), .int (iI ts)])), (va, .inl (g_I (x_G X), 631, .inl (aI fv))), (re, .inl (g_I (x_G X), 2524, .inl (aI fr))), (su, .inl (g_J (x_G X), 631, .inr (.inl (aL fs)))), (so, .inr (2, [.ref bo, .ref ca, .ref ss, .int (iI nw), .int (iI rb)])), (bo, .inl (g_I (x_G X), 16, .inl (aI fb))), (ca, .inl (g_I (x_G X), 16, .inl (aI fc))), (ss, .inl (g_J (x_G X), 16, .inr (.inl (aL fk))))]) := ⟨_, by rw [C.R]; exact hQ⟩
  obtain ⟨s1, s2, s3, s4, s5, s6, s7⟩ := id hS
  obtain ⟨r1, r2, r3, r4⟩ := St_rng hK
  show K_ X 0 0 [(sc, .inr (5, [.ref tx, .ref b, .ref so, .ref pr, .ref b2])), (b, .inr (0, [.ref t, .int (iI tl), .int (iI bd), .int (iI cm), .long (jL sk)])), (t, .inr (3, [.ref va, .ref re, .ref su, .int (iI tb), .int (iI ts)])), (va, .inl (g_I (x_G X), 631, .inl (aI fv))), (re, .inl (g_I (x_G X), 2524, .inl (aI fr))), (su, .inl (g_J (x_G X), 631, .inr (.inl (aL fs)))), (so, .inr (2, [.ref bo, .ref ca, .ref ss, .int (iI nw), .int (iI rb)])), (bo, .inl (g_I (x_G X), 16, .inl (aI fb))), (ca, .inl (g_I (x_G X), 16, .inl (aI fc))), (ss, .inl (g_J (x_G X), 16, .inr (.inl (aL fk))))] 0 [(0, .ref sc)] []
  refine k_aload_n C 0 rfl dX6_strike_0 rfl ?_
  refine k_callVx C hTh htab (y := yX6_checkNextPrime) [] 0 rfl (c_X6_checkNextPrime (x_l X) (x_G X) sc tx so pr b2 b t tl bd cm sk n k m (by assumption) (hfl)) gX6_strike_X6_checkNextPrime rfl ⟨rfl, by decide +kernel, by decide +kernel, by decide +kernel⟩ ⟨by decide, by decide⟩ 0 (fs := [.ref tx, .ref b, .ref so, .ref pr, .ref b2]) rfl rfl rfl [0, 1] [2, 3, 4, 5, 6, 7, 8, 9] [8, 9, 0, 1, 2, 3, 4, 5, 6, 7] (by decide) (wc := [(sc, .inr (5, [.ref tx, .ref b, .ref so, .ref pr, .ref b2])), (b, .inr (0, [.ref t, .int (iI tl), .int (iI bd), .int (iI cm), .long (jL sk)]))]) rfl [] rfl (Nat.le_of_ble_eq_true rfl) ⟨Nat.le_of_ble_eq_true rfl, Nat.le_of_ble_eq_true rfl⟩ dX6_strike_1 (fun u1 => [(sc, .inr (5, [.ref tx, .ref b, .ref so, .ref pr, .ref b2])), (b, .inr (0, [.ref t, .int (iI tl), .int (iI bd), .int (iI cm), .long (jL sk)])), (t, .inr (3, [.ref va, .ref re, .ref su, .int (iI tb), .int (iI ts)])), (va, .inl (g_I (x_G X), 631, .inl (aI fv))), (re, .inl (g_I (x_G X), 2524, .inl (aI fr))), (su, .inl (g_J (x_G X), 631, .inr (.inl (aL fs)))), (so, .inr (2, [.ref bo, .ref ca, .ref ss, .int (iI nw), .int (iI rb)])), (bo, .inl (g_I (x_G X), 16, .inl (aI fb))), (ca, .inl (g_I (x_G X), 16, .inl (aI fc))), (ss, .inl (g_J (x_G X), 16, .inr (.inl (aL fk))))]) (fun v => [(sc, .inr (5, [.ref tx, .ref b, .ref so, .ref pr, .ref b2])), (b, .inr (0, [.ref t, .int (iI tl), .int (iI bd), .int (iI cm), .long (jL sk)])), (t, .inr (3, [.ref va, .ref re, .ref su, .int (iI tb), .int (iI ts)])), (va, .inl (g_I (x_G X), 631, .inl (aI fv))), (re, .inl (g_I (x_G X), 2524, .inl (aI fr))), (su, .inl (g_J (x_G X), 631, .inr (.inl (aL fs)))), (so, .inr (2, [.ref bo, .ref ca, .ref ss, .int (iI nw), .int (iI rb)])), (bo, .inl (g_I (x_G X), 16, .inl (aI fb))), (ca, .inl (g_I (x_G X), 16, .inl (aI fc))), (ss, .inl (g_J (x_G X), 16, .inr (.inl (aL fk))))]) (wr := [(t, .inr (3, [.ref va, .ref re, .ref su, .int (iI tb), .int (iI ts)])), (va, .inl (g_I (x_G X), 631, .inl (aI fv))), (re, .inl (g_I (x_G X), 2524, .inl (aI fr))), (su, .inl (g_J (x_G X), 631, .inr (.inl (aL fs)))), (so, .inr (2, [.ref bo, .ref ca, .ref ss, .int (iI nw), .int (iI rb)])), (bo, .inl (g_I (x_G X), 16, .inl (aI fb))), (ca, .inl (g_I (x_G X), 16, .inl (aI fc))), (ss, .inl (g_J (x_G X), 16, .inr (.inl (aL fk))))]) rfl (by decide) (by decide) (by decide) (fun _ => rfl) (fun _ => rfl) (fun u1 => []) (fun _ => rfl) 1 6 ⟨rfl, rfl⟩ (fun v hv => ⟨v, rfl, hv, rfl⟩) (fun u1 hu1 => ?_)
  refine k_aload_n C 0 rfl dX6_strike_4 rfl ?_
  refine k_get C (Cn := RX6) (T := TX6) (N := 5) (ci := 5) (ref := "StruckCounts") in_X6_strike_X6 0 rfl rfl 2 (by decide) 1 rfl rfl (v := .ref so) rfl dX6_strike_5 ?_
  refine k_aload_n C 0 rfl dX6_strike_8 rfl ?_
  refine k_get C (Cn := RX6) (T := TX6) (N := 5) (ci := 5) (ref := "StruckCounts") in_X6_strike_X6 0 rfl rfl 1 (by decide) 2 rfl rfl (v := .ref b) rfl dX6_strike_9 ?_
  refine k_callV C (y := yX2_remember) [.ref b] 1 rfl (c_X2_remember (x_l X) (x_G X) so bo ca ss nw rb b t tl bd cm sk fb fc fk (by omega) (by omega)) gX6_strike_X2_remember rfl ⟨rfl, by decide +kernel, by decide +kernel, by decide +kernel⟩ ⟨by decide, by decide⟩ 6 (fs := [.ref bo, .ref ca, .ref ss, .int (iI nw), .int (iI rb)]) rfl rfl rfl [6, 7, 8, 9, 1] (by decide) (wc := [(so, .inr (2, [.ref bo, .ref ca, .ref ss, .int (iI nw), .int (iI rb)])), (bo, .inl (g_I (x_G X), 16, .inl (aI fb))), (ca, .inl (g_I (x_G X), 16, .inl (aI fc))), (ss, .inl (g_J (x_G X), 16, .inr (.inl (aL fk)))), (b, .inr (0, [.ref t, .int (iI tl), .int (iI bd), .int (iI cm), .long (jL sk)]))]) rfl [] rfl (Nat.le_of_ble_eq_true rfl) ⟨Nat.le_of_ble_eq_true rfl, Nat.le_of_ble_eq_true rfl⟩ dX6_strike_12 (fun u12 => [(sc, .inr (5, [.ref tx, .ref b, .ref so, .ref pr, .ref b2])), (b, .inr (0, [.ref t, .int (iI tl), .int (iI bd), .int (iI cm), .long (jL sk)])), (t, .inr (3, [.ref va, .ref re, .ref su, .int (iI tb), .int (iI ts)])), (va, .inl (g_I (x_G X), 631, .inl (aI fv))), (re, .inl (g_I (x_G X), 2524, .inl (aI fr))), (su, .inl (g_J (x_G X), 631, .inr (.inl (aL fs)))), (so, .inr (2, [.ref bo, .ref ca, .ref ss, .int (iI u12.1), .int (iI u12.2.1)])), (bo, .inl (g_I (x_G X), 16, .inl (aI u12.2.2.1))), (ca, .inl (g_I (x_G X), 16, .inl (aI u12.2.2.2.1))), (ss, .inl (g_J (x_G X), 16, .inr (.inl (aL u12.2.2.2.2))))]) (Or.inr ⟨[0, 2, 3, 4, 5], [0, 9, 1, 2, 3, 4, 5, 6, 7, 8], [(sc, .inr (5, [.ref tx, .ref b, .ref so, .ref pr, .ref b2])), (t, .inr (3, [.ref va, .ref re, .ref su, .int (iI tb), .int (iI ts)])), (va, .inl (g_I (x_G X), 631, .inl (aI fv))), (re, .inl (g_I (x_G X), 2524, .inl (aI fr))), (su, .inl (g_J (x_G X), 631, .inr (.inl (aL fs))))], rfl, by decide, by decide, by decide, fun _ => rfl⟩) (fun u12 => []) (fun _ => rfl) 1 6 ⟨rfl, rfl⟩ (fun u12 hu12 => ?_)
  refine k_aload_n C 0 rfl dX6_strike_15 rfl ?_
  refine k_get C (Cn := RX6) (T := TX6) (N := 5) (ci := 5) (ref := "StruckCounts") in_X6_strike_X6 0 rfl rfl 1 (by decide) 2 rfl rfl (v := .ref b) rfl dX6_strike_16 ?_
  refine k_callV C (y := yX0_countLeft) [] 0 rfl (c_X0_countLeft (x_l X) (x_G X) b t va re su tl tb ts bd cm sk n k m fv fr fs (by assumption) (by assumption)) gX6_strike_X0_countLeft rfl ⟨rfl, by decide +kernel, by decide +kernel, by decide +kernel⟩ ⟨by decide, by decide⟩ 1 (fs := [.ref t, .int (iI tl), .int (iI bd), .int (iI cm), .long (jL sk)]) rfl rfl rfl [1, 2, 3, 4, 5] (by decide) (wc := [(b, .inr (0, [.ref t, .int (iI tl), .int (iI bd), .int (iI cm), .long (jL sk)])), (t, .inr (3, [.ref va, .ref re, .ref su, .int (iI tb), .int (iI ts)])), (va, .inl (g_I (x_G X), 631, .inl (aI fv))), (re, .inl (g_I (x_G X), 2524, .inl (aI fr))), (su, .inl (g_J (x_G X), 631, .inr (.inl (aL fs))))]) rfl [] rfl (Nat.le_of_ble_eq_true rfl) ⟨Nat.le_of_ble_eq_true rfl, Nat.le_of_ble_eq_true rfl⟩ dX6_strike_19 (fun u19 => [(sc, .inr (5, [.ref tx, .ref b, .ref so, .ref pr, .ref b2])), (b, .inr (0, [.ref t, .int (iI cm), .int (iI bd), .int (iI cm), .long (jL sk)])), (t, .inr (3, [.ref va, .ref re, .ref su, .int (iI u19.2.1), .int (iI u19.2.2.1)])), (va, .inl (g_I (x_G X), 631, .inl (aI u19.2.2.2.1))), (re, .inl (g_I (x_G X), 2524, .inl (aI u19.2.2.2.2.1))), (su, .inl (g_J (x_G X), 631, .inr (.inl (aL u19.2.2.2.2.2)))), (so, .inr (2, [.ref bo, .ref ca, .ref ss, .int (iI u12.1), .int (iI u12.2.1)])), (bo, .inl (g_I (x_G X), 16, .inl (aI u12.2.2.1))), (ca, .inl (g_I (x_G X), 16, .inl (aI u12.2.2.2.1))), (ss, .inl (g_J (x_G X), 16, .inr (.inl (aL u12.2.2.2.2))))]) (Or.inr ⟨[0, 6, 7, 8, 9], [0, 5, 6, 7, 8, 9, 1, 2, 3, 4], [(sc, .inr (5, [.ref tx, .ref b, .ref so, .ref pr, .ref b2])), (so, .inr (2, [.ref bo, .ref ca, .ref ss, .int (iI u12.1), .int (iI u12.2.1)])), (bo, .inl (g_I (x_G X), 16, .inl (aI u12.2.2.1))), (ca, .inl (g_I (x_G X), 16, .inl (aI u12.2.2.2.1))), (ss, .inl (g_J (x_G X), 16, .inr (.inl (aL u12.2.2.2.2))))], rfl, by decide, by decide, by decide, fun _ => rfl⟩) (fun u19 => [.int (iI u19.1)]) (fun _ => rfl) 1 6 ⟨rfl, rfl⟩ (fun u19 hu19 => ?_)
  refine k_istore_n C (lo' := [(1, .int (iI u19.1)), (0, .ref sc)]) dX6_strike_22 rfl (by decide) rfl ?_
  refine k_aload_n C 1 rfl dX6_strike_23 rfl ?_
  refine k_get C (Cn := RX6) (T := TX6) (N := 5) (ci := 5) (ref := "StruckCounts") in_X6_strike_X6 0 rfl rfl 1 (by decide) 2 rfl rfl (v := .ref b) rfl dX6_strike_24 ?_
  refine k_iconst C dX6_strike_27 ?_
  refine k_callV C (y := yX0_letCome) [.int (iI 1)] 1 rfl (c_X0_letCome (x_l X) (x_G X) b t cm bd cm sk 1 n k m (by first | assumption | exact Or.inr rfl) (by first | assumption | exact Or.inr rfl)) gX6_strike_X0_letCome rfl ⟨rfl, by decide +kernel, by decide +kernel, by decide +kernel⟩ ⟨by decide, by decide⟩ 1 (fs := [.ref t, .int (iI cm), .int (iI bd), .int (iI cm), .long (jL sk)]) rfl rfl rfl [1] (by decide) (wc := [(b, .inr (0, [.ref t, .int (iI cm), .int (iI bd), .int (iI cm), .long (jL sk)]))]) rfl [] rfl (Nat.le_of_ble_eq_true rfl) ⟨Nat.le_of_ble_eq_true rfl, Nat.le_of_ble_eq_true rfl⟩ dX6_strike_28 (fun u28 => [(sc, .inr (5, [.ref tx, .ref b, .ref so, .ref pr, .ref b2])), (b, .inr (0, [.ref t, .int (iI cm), .int (iI bd), .int (iI u28.2.1), .long (jL u28.2.2)])), (t, .inr (3, [.ref va, .ref re, .ref su, .int (iI u19.2.1), .int (iI u19.2.2.1)])), (va, .inl (g_I (x_G X), 631, .inl (aI u19.2.2.2.1))), (re, .inl (g_I (x_G X), 2524, .inl (aI u19.2.2.2.2.1))), (su, .inl (g_J (x_G X), 631, .inr (.inl (aL u19.2.2.2.2.2)))), (so, .inr (2, [.ref bo, .ref ca, .ref ss, .int (iI u12.1), .int (iI u12.2.1)])), (bo, .inl (g_I (x_G X), 16, .inl (aI u12.2.2.1))), (ca, .inl (g_I (x_G X), 16, .inl (aI u12.2.2.2.1))), (ss, .inl (g_J (x_G X), 16, .inr (.inl (aL u12.2.2.2.2))))]) (Or.inr ⟨[0, 2, 3, 4, 5, 6, 7, 8, 9], [0, 9, 1, 2, 3, 4, 5, 6, 7, 8], [(sc, .inr (5, [.ref tx, .ref b, .ref so, .ref pr, .ref b2])), (t, .inr (3, [.ref va, .ref re, .ref su, .int (iI u19.2.1), .int (iI u19.2.2.1)])), (va, .inl (g_I (x_G X), 631, .inl (aI u19.2.2.2.1))), (re, .inl (g_I (x_G X), 2524, .inl (aI u19.2.2.2.2.1))), (su, .inl (g_J (x_G X), 631, .inr (.inl (aL u19.2.2.2.2.2)))), (so, .inr (2, [.ref bo, .ref ca, .ref ss, .int (iI u12.1), .int (iI u12.2.1)])), (bo, .inl (g_I (x_G X), 16, .inl (aI u12.2.2.1))), (ca, .inl (g_I (x_G X), 16, .inl (aI u12.2.2.2.1))), (ss, .inl (g_J (x_G X), 16, .inr (.inl (aL u12.2.2.2.2))))], rfl, by decide, by decide, by decide, fun _ => rfl⟩) (fun u28 => [.int (iI u28.1)]) (fun _ => rfl) 1 6 ⟨rfl, rfl⟩ (fun u28 hu28 => ?_)
  obtain ⟨z1, z2, z3, z4⟩ := hu28.resolve_left (fun z => hu1 z.1)
  have hS2 := BdS_next hS (s := 1) (cm2 := u28.2.1) (sk2 := u28.2.2) (nxI_some hu1).1 z3 z4
  rw [if_neg (by decide)] at hS2
  have hT2 : BdT n (k + 1) (m ||| 2 ^ k) cm u19.2.1 u19.2.2.1 u19.2.2.2.1 u19.2.2.2.2.1 u19.2.2.2.2.2 := BdT_next (Tl_up hS hu19.1) (fun j hj => or_lo hj)
  refine k_pop C dX6_strike_31 rfl ?_
  refine k_iload_n C 0 rfl dX6_strike_32 rfl ?_
  refine k_aload_n C 1 rfl dX6_strike_33 rfl ?_
  refine k_get C (Cn := RX6) (T := TX6) (N := 5) (ci := 5) (ref := "StruckCounts") in_X6_strike_X6 0 rfl rfl 1 (by decide) 2 rfl rfl (v := .ref b) rfl dX6_strike_34 ?_
  refine k_callV C (y := yX0_countLeft) [] 0 rfl (c_X0_countLeft (x_l X) (x_G X) b t va re su cm u19.2.1 u19.2.2.1 bd u28.2.1 u28.2.2 n (k + 1) (m ||| 2 ^ k) u19.2.2.2.1 u19.2.2.2.2.1 u19.2.2.2.2.2 (hS2) (hT2)) gX6_strike_X0_countLeft rfl ⟨rfl, by decide +kernel, by decide +kernel, by decide +kernel⟩ ⟨by decide, by decide⟩ 1 (fs := [.ref t, .int (iI cm), .int (iI bd), .int (iI u28.2.1), .long (jL u28.2.2)]) rfl rfl rfl [1, 2, 3, 4, 5] (by decide) (wc := [(b, .inr (0, [.ref t, .int (iI cm), .int (iI bd), .int (iI u28.2.1), .long (jL u28.2.2)])), (t, .inr (3, [.ref va, .ref re, .ref su, .int (iI u19.2.1), .int (iI u19.2.2.1)])), (va, .inl (g_I (x_G X), 631, .inl (aI u19.2.2.2.1))), (re, .inl (g_I (x_G X), 2524, .inl (aI u19.2.2.2.2.1))), (su, .inl (g_J (x_G X), 631, .inr (.inl (aL u19.2.2.2.2.2))))]) rfl [.int (iI u19.1)] rfl (Nat.le_of_ble_eq_true rfl) ⟨Nat.le_of_ble_eq_true rfl, Nat.le_of_ble_eq_true rfl⟩ dX6_strike_37 (fun u37 => [(sc, .inr (5, [.ref tx, .ref b, .ref so, .ref pr, .ref b2])), (b, .inr (0, [.ref t, .int (iI u28.2.1), .int (iI bd), .int (iI u28.2.1), .long (jL u28.2.2)])), (t, .inr (3, [.ref va, .ref re, .ref su, .int (iI u37.2.1), .int (iI u37.2.2.1)])), (va, .inl (g_I (x_G X), 631, .inl (aI u37.2.2.2.1))), (re, .inl (g_I (x_G X), 2524, .inl (aI u37.2.2.2.2.1))), (su, .inl (g_J (x_G X), 631, .inr (.inl (aL u37.2.2.2.2.2)))), (so, .inr (2, [.ref bo, .ref ca, .ref ss, .int (iI u12.1), .int (iI u12.2.1)])), (bo, .inl (g_I (x_G X), 16, .inl (aI u12.2.2.1))), (ca, .inl (g_I (x_G X), 16, .inl (aI u12.2.2.2.1))), (ss, .inl (g_J (x_G X), 16, .inr (.inl (aL u12.2.2.2.2))))]) (Or.inr ⟨[0, 6, 7, 8, 9], [0, 5, 6, 7, 8, 9, 1, 2, 3, 4], [(sc, .inr (5, [.ref tx, .ref b, .ref so, .ref pr, .ref b2])), (so, .inr (2, [.ref bo, .ref ca, .ref ss, .int (iI u12.1), .int (iI u12.2.1)])), (bo, .inl (g_I (x_G X), 16, .inl (aI u12.2.2.1))), (ca, .inl (g_I (x_G X), 16, .inl (aI u12.2.2.2.1))), (ss, .inl (g_J (x_G X), 16, .inr (.inl (aL u12.2.2.2.2))))], rfl, by decide, by decide, by decide, fun _ => rfl⟩) (fun u37 => [.int (iI u37.1), .int (iI u19.1)]) (fun _ => rfl) 1 6 ⟨rfl, rfl⟩ (fun u37 hu37 => ?_)
  refine k_isub C dX6_strike_40 ?_
  refine k_nmI (fun v40 e40 => ?_)
  exact k_iret C hR (u := (v40, u28.2.1, u28.2.2, (u28.2.1, u37.2.1, u37.2.2.1, u37.2.2.2.1, u37.2.2.2.2.1, u37.2.2.2.2.2), u12.1, u12.2.1, u12.2.2.1, u12.2.2.2.1, u12.2.2.2.2)) rfl (by (try dsimp only) <;> exact (⟨hu1, by rw [e40, hu19.2, hu37.2], hS2, Tl_up hS2 hu37.1, St_rem hK hS hu12⟩)) rfl (Nat.le_of_ble_eq_true rfl) (Nat.le_of_ble_eq_true rfl) dX6_strike_41
end
