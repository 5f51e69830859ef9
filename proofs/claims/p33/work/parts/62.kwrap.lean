/-! methods with a table of handlers: called in a try, what is thrown is caught -/
section KW
theorem CtW.of {l : Launch} {G : KG} {y : MethodName} {ws ws' : List Cond} {rm : Room} {av : List Value} {w : va_W} {S : Type} {ok : S → Prop} {rv : S → Option Value} {w1 : S → va_W} {cc : ByteArray} {maxL : Nat} {ret : Option FieldType} {hh : List (Nat × Nat × Nat × Nat)}
    (hy : plainName y.cls = true) (hw : ws = Cond.codeWith y cc maxL ret hh :: ws') (hL : (lg_sl av).length ≤ maxL)
    (body : ∀ X : KX, Cx X cc y.cls ws ret maxL rm → x_G X = G → x_l X = l → (x_M X).name = y.name → Ret X ok rv w1 → (x_c X).exceptionTable.toList = tableOf hh → K_ X 0 0 w 0 (lv_args 0 av) []) : Ct l G y ws rm av w ok rv w1 := by
  intro sz
  refine va_MetW (cc := cc) (maxL := maxL) (ret := ret) (hh := hh) hy hw ?_
  intro p e s m args below meth c s₁ B hml hv
  obtain ⟨rfl, hsz, hP, hK, hD0, hS0⟩ := hv
  subst hsz
  have hts := atoms_spec (ws := ws) B.pre
  have hown : s.vm.findClass y.cls = some m.cls := findClass_of_methodNamed B.named
  have hnm := (name_of_methodNamed B.named B.method).1
  have htab := vx_table (x := y) B (hts _ (by rw [hw]; exact List.mem_cons_self))
  have hD := hD0.self (sz := s.heap.size)
  have hl := lv_entry av (n := maxL) hL
  rw [lg_entry_eq]
  exact body (p, l, e, rm, s, m, av.toArray, below, meth, c, MQ below (Qg G ok rv w1 (va_A w s.heap.size)) av.toArray s rm.cells rm.slots (va_A w s.heap.size), va_A w s.heap.size, maxL, G)
    ⟨B.exec, B.bytes, hown, hts, fun q h => Or.inr h, hml, hK, hS0, B.returns, B.notSynchronized, rfl, rfl⟩ rfl rfl hnm (fun H locs k j g h1 h2 kk => W.widen h1 h2 kk) htab s.heap [] _ hP hD va_S.rf hl
variable {X : KX} {cc : ByteArray} {own : String} {Ts : List Cond} {ret : Option FieldType} {n : Nat} {rm : Room} {k j pc : Nat} {ws : va_W} {lo lo' : List (Nat × Value)} {st : List Value}
theorem k_callVc (C : Cx X cc own Ts ret n rm) {S V : Type} {ok : S → Prop} {rv : S → Option Value} {w1 : S → va_W} {okx : V → Prop} {ex : V → String} {wx : V → va_W} {hh : List (Nat × Nat × Nat × Nat)} (htab : (x_c X).exceptionTable.toList = tableOf hh) {y : MethodName} {wsy ws' : List Cond} {rmy : Room} {b : Nat} (av : List Value) (nn : Nat) (hnn : av.length = nn) {wc : va_W} {bytes : ByteArray} {maxL ix : Nat} {rty : Option FieldType} {Cn : String}
    (hM : Cxt (x_l X) (x_G X) y wsy rmy (.ref b :: av) wc ok rv w1 okx ex wx) (hG : GoodIn Ts (wsV own ix Cn y wsy)) (hw : wsy = Cond.code y bytes maxL rty :: ws')
    (hdd : y.cls = Cn ∧ y.cls ≠ "java/lang/invoke/MethodHandle" ∧ y.cls ≠ "java/lang/invoke/VarHandle" ∧ (parseMethodDescriptor y.desc).map (fun d => d.parameters.length) = some nn) (hR : rmy.frames + 1 ≤ rm.frames ∧ 8 + (maxL + 11) + rmy.locals ≤ rm.locals)
    (q0 : Nat) {ci : Nat} {q : vw_C} {fs : List Value} (he : ws[q0]? = some (b, .inr (ci, fs))) (hc : vwCl[ci]? = some q) (hq : q.1 = Cn)
    (isC isR is : List Nat) (hnC : va_nd isC = true) (hC : isC.map (fun i => ws[i]?) = wc.map some) (rest : List Value) (hst : st = av.reverse ++ .ref b :: rest) (hW : (rest.map fun v => v.category).sum ≤ 8) (hroom : k + rmy.cells ≤ rm.cells ∧ j + rmy.slots ≤ rm.slots) (hd : decode cc pc = .ok (.invokevirtual ix, 3))
    (w' : S → va_W) (wx' : V → va_W) {wr : va_W} (j1 : isR.map (fun i => ws[i]?) = wr.map some) (j2' : va_nd isR = true) (j3 : ∀ i ∈ isR, i ∉ isC) (j4 : va_nd is = true) (j5 : ∀ u, is.map (fun i => (wr ++ w1 u)[i]?) = (w' u).map some) (j6 : ∀ v, is.map (fun i => (wr ++ wx v)[i]?) = (wx' v).map some)
    (st2 : S → List Value) (h9 : ∀ u, (rv u).toList ++ rest = st2 u) (k2 j2 : Nat) (h8 : k + rmy.cells = k2 ∧ j + rmy.slots = j2)
    (kx : ∀ v : V, okx v → ∃ (pre : List ExceptionTableEntry) (x : ExceptionTableEntry) (suf : List ExceptionTableEntry) (i : Nat) (iC : Nat), tableOf hh = pre ++ x :: suf ∧
      (∀ z ∈ pre, z.catchType ≠ 0 ∧ ∃ (nm : String) (i3 : Nat), Ts[i3]? = some (.classLink own z.catchType nm) ∧ (ex v, nm) ∈ exN) ∧ covers x pc = true ∧ x.catchType ≠ 0 ∧ Ts[i]? = some (.classLink own x.catchType (ex v)) ∧ exC[iC]? = some (ex v) ∧ ∀ q9 : Addr, K_ X k2 j2 (wx' v) x.handlerPc lo [.ref q9])
    (kk : ∀ u : S, ok u → K_ X k2 j2 (w' u) (pc + 3) lo (st2 u)) : K_ X k j ws pc lo st := by
  intro H locs ls hP hD hS hl
  refine w_backX C hP hD hS isC hC (vx_runV (As := av) (b := b) C.F (hM H.size) (cwV nn C.w hG hw rfl rfl hdd (by rw [C.R]; exact hR)) ⟨Pg.blind, hq ▸ va_recv C.K hP hc he, fun U hU hW => pg_call C hP hD hS isC hnC hC hU hW⟩ rfl hnn hl.1 hst (lv_room hW) hd (room_ok C hroom)) (fun v H1 locs1 ce q9 ho hP1 hD1 hk1 hS1 hce hcv hcl => ?_) (fun u H1 locs1 ho hP1 hD1 hk1 hS1 => ?_)
  · obtain ⟨hP2, hD2⟩ := w_join C hP hD hS isC isR is hC j1 j2' j3 j4 (j6 v) hk1 hP1 hD1
    obtain ⟨pre, x, suf, i, iC, e1, e2, e3, e4, e5, e6, e7⟩ := kx v ho
    have hca := C.S.2.2.2.2.2.2.2.2.2.2.1 _ (List.mem_of_getElem? e6)
    refine vx_catch C.o pre x suf (htab.trans e1) (fun z hz => ?_) e3 e4 (C.at i e5) (hca.use rfl) hce hcv hcl ?_
    · obtain ⟨z1, nm, i3, z2, z3⟩ := e2 z hz
      exact Or.inr ⟨z1, nm, C.at i3 z2, C.S.2.2.2.2.2.2.2.2.2.2.2.1 _ z3⟩
    · rw [h8.1, h8.2]
      exact e7 q9 H1 locs1 ls hP2 hD2 hS1 hl
  · rw [h9 u, h8.1, h8.2]
    obtain ⟨hP2, hD2⟩ := w_join C hP hD hS isC isR is hC j1 j2' j3 j4 (j5 u) hk1 hP1 hD1
    exact kk u ho H1 locs1 ls hP2 hD2 hS1 hl
theorem k_callSW (C : Cx X cc own Ts ret n rm) {S : Type} {ok : S → Prop} {rv : S → Option Value} {w1 : S → va_W} {y : MethodName} {wsy ws' : List Cond} {rmy : Room} (av : List Value) (nn : Nat) (hnn : av.length = nn) {wc : va_W} {bytes : ByteArray} {maxL ix : Nat} {rty : Option FieldType} {hh : List (Nat × Nat × Nat × Nat)}
    (hM : Ct (x_l X) (x_G X) y wsy rmy av wc ok rv w1) (hG : GoodIn Ts (va_wsS own ix y wsy)) (hw : wsy = Cond.codeWith y bytes maxL rty hh :: ws')
    (hdd : y.cls ≠ "java/lang/invoke/MethodHandle" ∧ y.cls ≠ "java/lang/invoke/VarHandle" ∧ (parseMethodDescriptor y.desc).map (fun d => d.parameters.length) = some nn) (hR : rmy.frames + 1 ≤ rm.frames ∧ 8 + (maxL + 11) + rmy.locals ≤ rm.locals)
    (isC : List Nat) (hnC : va_nd isC = true) (hC : isC.map (fun i => ws[i]?) = wc.map some) (rest : List Value) (hst : st = av.reverse ++ rest) (hW : (rest.map fun v => v.category).sum ≤ 8) (hroom : k + rmy.cells ≤ rm.cells ∧ j + rmy.slots ≤ rm.slots) (hd : decode cc pc = .ok (.invokestatic ix, 3))
    (w' : S → va_W) (hj : (∀ u, w1 u = wc ∧ w' u = ws) ∨ ∃ (isR is : List Nat) (wr : va_W), isR.map (fun i => ws[i]?) = wr.map some ∧ va_nd isR = true ∧ (∀ i ∈ isR, i ∉ isC) ∧ va_nd is = true ∧ ∀ u, is.map (fun i => (wr ++ w1 u)[i]?) = (w' u).map some)
    (st2 : S → List Value) (h9 : ∀ u, (rv u).toList ++ rest = st2 u) (k2 j2 : Nat) (h8 : k + rmy.cells = k2 ∧ j + rmy.slots = j2) (kk : ∀ u : S, ok u → K_ X k2 j2 (w' u) (pc + 3) lo (st2 u)) : K_ X k j ws pc lo st := by
  intro H locs ls hP hD hS hl
  refine w_back C hP hD hS isC hC (vx_runSW (As := av) C.F (hM H.size) (vx_cwSW nn C.w hG hw rfl rfl hdd (by rw [C.R]; exact hR)) ⟨Pg.blind, fun U hU hW => pg_call C hP hD hS isC hnC hC hU hW⟩ rfl hnn hl.1 hst (lv_room hW) hd (room_ok C hroom)) (fun u H1 locs1 ho hP1 hD1 hk1 hS1 => ?_)
  rw [h9 u, h8.1, h8.2]
  rcases hj with hj | ⟨isR, is, wr, j1, j2, j3, j4, j5⟩
  · obtain ⟨e1, e2⟩ := hj u
    rw [e1] at hP1
    exact kk u ho H1 locs1 ls (by rw [e2]; exact w_same hP hC hk1 hD hP1) (by rw [e2]; exact hD) hS1 hl
  · obtain ⟨hP2, hD2⟩ := w_join C hP hD hS isC isR is hC j1 j2 j3 j4 (j5 u) hk1 hP1 hD1
    exact kk u ho H1 locs1 ls hP2 hD2 hS1 hl
end KW
/-- what an int is as a long -/
def w32 (x : Int) : Int := (iI x).toInt
section KW2
variable {X : KX} {cc : ByteArray} {own : String} {Ts : List Cond} {ret : Option FieldType} {n : Nat} {rm : Room} {k j pc : Nat} {ws : va_W} {lo lo' : List (Nat × Value)} {st : List Value}
theorem iI_w32 (x : Int) : (iI x).toInt64 = jL (w32 x) := (Int64.ofInt_int32ToInt (iI x)).symm
theorem k_i2lW (C : Cx X cc own Ts ret n rm) {x : Int} (hd : decode cc pc = .ok (.i2l, 1)) (kk : K_ X k j ws (pc + 1) lo (.long (jL (w32 x)) :: st)) : K_ X k j ws pc lo (.int (iI x) :: st) := fun H locs ls hP hD hS hl => lv_i2l C.e C.b hd (iI_w32 x) (kk H locs ls hP hD hS hl)
end KW2
