/-! calls over K_ -/
theorem mapget {α : Type} {is : List Nat} {ws w2 : List α} (h : is.map (fun i => ws[i]?) = w2.map some) {k : Nat} {q : α} (hq : w2[k]? = some q) : ∃ i, is[k]? = some i ∧ ws[i]? = some q := by
  have h1 : (is.map (fun i => ws[i]?))[k]? = some (some q) := by rw [h, List.getElem?_map, hq]; rfl
  rw [List.getElem?_map] at h1
  cases hi : is[k]? with
  | none => rw [hi] at h1; cases h1
  | some i => rw [hi] at h1; exact ⟨i, rfl, Option.some.inj h1⟩
section KC
variable {X : KX} {cc : ByteArray} {own : String} {Ts : List Cond} {ret : Option FieldType} {n : Nat} {rm : Room} {k j pc : Nat} {ws : va_W} {lo lo' : List (Nat × Value)} {st : List Value}
/-- St at a call -/
theorem st_call (C : Cx X cc own Ts ret n rm) {H : Heap} {locs : List Loc} (hS : va_S (x_A X) (x_s X).heap H locs) {wc : va_W} (hF : ∀ q, va_A wc H.size q → x_A X q) {U : State} (hU : U.heap = H) (hW : (x_s X).WarmedH U.vm) : St (x_G X) (va_A wc H.size) U U.heap := by
  rw [hU]
  exact ((C.S.kept hS.2.1).narrow hF).moved hW
theorem pg_call (C : Cx X cc own Ts ret n rm) {H : Heap} {locs : List Loc} (hP : va_P (g_D (x_G X)) vwCl ws H) (hD : va_D (x_A X) ws) (hS : va_S (x_A X) (x_s X).heap H locs) {wc : va_W} (isC : List Nat) (hnC : va_nd isC = true) (hC : isC.map (fun i => ws[i]?) = wc.map some) {av : List Value} {U : State} (hU : U.heap = H) (hW : (x_s X).WarmedH U.vm) : Pg (x_G X) av wc H.size av.toArray U := by
  refine ⟨rfl, by rw [hU], ?_, va_K.moved hW.alike C.K, (hD.sub isC hnC hC).weaken (fun _ _ _ _ => trivial), st_call C hS (va_free hD hS C.A isC hC) hU hW⟩
  rw [hU]
  intro k q hq
  obtain ⟨i, -, h2⟩ := mapget hC hq
  exact hP i q h2
/-- behind a call that returns -/
theorem w_back (C : Cx X cc own Ts ret n rm) {S : Type} {ok : S → Prop} {rv : S → Option Value} {w1 : S → va_W} {wc : va_W} {H : Heap} {locs : List Loc} {ls : Array Slot} {rest st0 : List Value} {mc ms : Nat} {a : Array Value}
    (hP : va_P (g_D (x_G X)) vwCl ws H) (hD : va_D (x_A X) ws) (hS : va_S (x_A X) (x_s X).heap H locs) (isC : List Nat) (hC : isC.map (fun i => ws[i]?) = wc.map some)
    (hr : va_Run (x_p X) (x_l X) (x_e X) (x_R X) (x_s X) (x_m X) (x_a X) (x_b X) (x_M X) (x_c X) H locs k j mc ms (F0 (x_m X) pc ls st0) rest (Qg (x_G X) ok rv w1 (va_A wc H.size) a) (va_A wc H.size))
    (kk : ∀ (u : S) (H1 : Heap) (locs1 : List Loc), ok u → va_P (g_D (x_G X)) vwCl (w1 u) H1 → va_D (va_A wc H.size) (w1 u) → (∀ q : Nat, q < H.size → ¬ va_A wc H.size q → H1[q]? = H[q]?) → va_S (x_A X) (x_s X).heap H1 locs1 →
      W (x_p X) (x_l X) (x_e X) (x_R X) (x_s X) (x_m X) (x_a X) (x_b X) (x_M X) (x_c X) H1 locs1 (k + mc) (j + ms) (x_Q X) (F0 (x_m X) (pc + 3) ls ((rv u).toList ++ rest))) :
    W (x_p X) (x_l X) (x_e X) (x_R X) (x_s X) (x_m X) (x_a X) (x_b X) (x_M X) (x_c X) H locs k j (x_Q X) (F0 (x_m X) pc ls st0) := by
  have hF := va_free hD hS C.A isC hC
  intro T hT Y
  obtain ⟨v, st₀, t, T', L, h0, Y', hL, e1, e2, ⟨⟨u, hv, hp, hb, hd⟩, hz, hk⟩, go⟩ := hr T hT Y
  cases hv
  rw [h0] at hz hk
  obtain ⟨t2, a1, b1⟩ := kk u T'.heap (locs ++ L) hp (by rw [e1]; exact hb) hd (fun q h1 h2 => by rw [e1]; exact hk q h1 h2)
    ⟨Nat.le_trans hS.1 (by rw [e1]; exact hz), fun q h1 h2 => by rw [e1, hk q (Nat.lt_of_lt_of_le h1 hS.1) (fun z => h2 (hF q z))]; exact hS.2.1 q h1 h2, fun q hq => by
      rcases List.mem_append.mp hq with h | h
      · exact hS.2.2 q h
      · exact hF _ (hL q h)⟩ T' rfl Y'
  exact ⟨t2, go t2 a1, b1⟩
/-- the caller's world behind a call that leaves the callee's world w1 -/
theorem w_join {wc w1 wr w' : va_W} {H H1 : Heap} {locs : List Loc} (C : Cx X cc own Ts ret n rm) (hP : va_P (g_D (x_G X)) vwCl ws H) (hD : va_D (x_A X) ws) (hS : va_S (x_A X) (x_s X).heap H locs) (isC isR is : List Nat) (hC : isC.map (fun i => ws[i]?) = wc.map some) (hR : isR.map (fun i => ws[i]?) = wr.map some) (hn : va_nd isR = true) (hdis : ∀ i ∈ isR, i ∉ isC) (hn2 : va_nd is = true) (h2 : is.map (fun i => (wr ++ w1)[i]?) = w'.map some)
    (hk : ∀ q : Nat, q < H.size → ¬ va_A wc H.size q → H1[q]? = H[q]?) (hP1 : va_P (g_D (x_G X)) vwCl w1 H1) (hD1 : va_D (va_A wc H.size) w1) : va_P (g_D (x_G X)) vwCl w' H1 ∧ va_D (x_A X) w' := by
  obtain ⟨hP2, hD2⟩ := va_join hP hD isC isR hC hR hn hdis hk (va_free hD hS C.A isC hC) hP1 hD1
  refine ⟨fun k q hq => ?_, hD2.sub is hn2 h2⟩
  obtain ⟨i, -, h3⟩ := mapget h2 hq
  exact hP2 i q h3
/-- .. or leaves the callee's world as it was -/
theorem w_same {wc : va_W} {H H1 : Heap} {isC : List Nat} (hP : va_P (g_D (x_G X)) vwCl ws H) (hC : isC.map (fun i => ws[i]?) = wc.map some)
    (hk : ∀ q : Nat, q < H.size → ¬ va_A wc H.size q → H1[q]? = H[q]?) (hD : va_D (x_A X) ws) (hP1 : va_P (g_D (x_G X)) vwCl wc H1) : va_P (g_D (x_G X)) vwCl ws H1 := by
  intro i q hq
  by_cases h : ∃ (k : Nat) (e : va_E), wc[k]? = some (q.1, e)
  · obtain ⟨k, e, hk2⟩ := h
    obtain ⟨i2, -, h3⟩ := mapget hC hk2
    have e1 : i2 = i := hD.1 i2 i _ _ h3 hq rfl
    subst e1
    rw [h3] at hq
    have e2 := Option.some.inj hq
    rw [← e2]
    exact hP1 k _ hk2
  · have hlt := (hP i q hq).lt
    refine (hP i q hq).kept (hk q.1 hlt (fun z => ?_))
    rcases z with z | z
    · exact h z
    · omega
/-- the callee's room -/
theorem room_ok (C : Cx X cc own Ts ret n rm) {mc ms : Nat} (h : k + mc ≤ rm.cells ∧ j + ms ≤ rm.slots) : k + mc ≤ (x_R X).cells ∧ j + ms ≤ (x_R X).slots := by rw [C.R]; exact h
theorem k_callV (C : Cx X cc own Ts ret n rm) {S : Type} {ok : S → Prop} {rv : S → Option Value} {w1 : S → va_W} {y : MethodName} {wsy ws' : List Cond} {rmy : Room} {b : Nat} (av : List Value) (nn : Nat) (hnn : av.length = nn) {wc : va_W} {bytes : ByteArray} {maxL ix : Nat} {rty : Option FieldType} {Cn : String}
    (hM : Ct (x_l X) (x_G X) y wsy rmy (.ref b :: av) wc ok rv w1) (hG : GoodIn Ts (wsV own ix Cn y wsy)) (hw : wsy = Cond.code y bytes maxL rty :: ws')
    (hdd : y.cls = Cn ∧ y.cls ≠ "java/lang/invoke/MethodHandle" ∧ y.cls ≠ "java/lang/invoke/VarHandle" ∧ (parseMethodDescriptor y.desc).map (fun d => d.parameters.length) = some nn) (hR : rmy.frames + 1 ≤ rm.frames ∧ 8 + (maxL + 11) + rmy.locals ≤ rm.locals)
    (q0 : Nat) {ci : Nat} {q : vw_C} {fs : List Value} (he : ws[q0]? = some (b, .inr (ci, fs))) (hc : vwCl[ci]? = some q) (hq : q.1 = Cn)
    (isC : List Nat) (hnC : va_nd isC = true) (hC : isC.map (fun i => ws[i]?) = wc.map some) (rest : List Value) (hst : st = av.reverse ++ .ref b :: rest) (hW : (rest.map fun v => v.category).sum ≤ 8) (hroom : k + rmy.cells ≤ rm.cells ∧ j + rmy.slots ≤ rm.slots) (hd : decode cc pc = .ok (.invokevirtual ix, 3))
    (w' : S → va_W) (hj : (∀ u, w1 u = wc ∧ w' u = ws) ∨ ∃ (isR is : List Nat) (wr : va_W), isR.map (fun i => ws[i]?) = wr.map some ∧ va_nd isR = true ∧ (∀ i ∈ isR, i ∉ isC) ∧ va_nd is = true ∧ ∀ u, is.map (fun i => (wr ++ w1 u)[i]?) = (w' u).map some)
    (st2 : S → List Value) (h9 : ∀ u, (rv u).toList ++ rest = st2 u) (k2 j2 : Nat) (h8 : k + rmy.cells = k2 ∧ j + rmy.slots = j2) (kk : ∀ u : S, ok u → K_ X k2 j2 (w' u) (pc + 3) lo (st2 u)) : K_ X k j ws pc lo st := by
  intro H locs ls hP hD hS hl
  refine w_back C hP hD hS isC hC (va_runV (As := av) (b := b) C.F (hM H.size) (cwV nn C.w hG hw rfl rfl hdd (by rw [C.R]; exact hR)) ⟨Pg.blind, hq ▸ va_recv C.K hP hc he, fun U hU hW => pg_call C hP hD hS isC hnC hC hU hW⟩ rfl hnn hl.1 hst (lv_room hW) hd (room_ok C hroom)) (fun u H1 locs1 ho hP1 hD1 hk1 hS1 => ?_)
  rw [h9 u, h8.1, h8.2]
  rcases hj with hj | ⟨isR, is, wr, j1, j2, j3, j4, j5⟩
  · obtain ⟨e1, e2⟩ := hj u
    rw [e1] at hP1
    exact kk u ho H1 locs1 ls (by rw [e2]; exact w_same hP hC hk1 hD hP1) (by rw [e2]; exact hD) hS1 hl
  · obtain ⟨hP2, hD2⟩ := w_join C hP hD hS isC isR is hC j1 j2 j3 j4 (j5 u) hk1 hP1 hD1
    exact kk u ho H1 locs1 ls hP2 hD2 hS1 hl
theorem k_callS (C : Cx X cc own Ts ret n rm) {S : Type} {ok : S → Prop} {rv : S → Option Value} {w1 : S → va_W} {y : MethodName} {wsy ws' : List Cond} {rmy : Room} (av : List Value) (nn : Nat) (hnn : av.length = nn) {wc : va_W} {bytes : ByteArray} {maxL ix : Nat} {rty : Option FieldType}
    (hM : Ct (x_l X) (x_G X) y wsy rmy av wc ok rv w1) (hG : GoodIn Ts (va_wsS own ix y wsy)) (hw : wsy = Cond.code y bytes maxL rty :: ws')
    (hdd : y.cls ≠ "java/lang/invoke/MethodHandle" ∧ y.cls ≠ "java/lang/invoke/VarHandle" ∧ (parseMethodDescriptor y.desc).map (fun d => d.parameters.length) = some nn) (hR : rmy.frames + 1 ≤ rm.frames ∧ 8 + (maxL + 11) + rmy.locals ≤ rm.locals)
    (isC : List Nat) (hnC : va_nd isC = true) (hC : isC.map (fun i => ws[i]?) = wc.map some) (rest : List Value) (hst : st = av.reverse ++ rest) (hW : (rest.map fun v => v.category).sum ≤ 8) (hroom : k + rmy.cells ≤ rm.cells ∧ j + rmy.slots ≤ rm.slots) (hd : decode cc pc = .ok (.invokestatic ix, 3))
    (w' : S → va_W) (hj : (∀ u, w1 u = wc ∧ w' u = ws) ∨ ∃ (isR is : List Nat) (wr : va_W), isR.map (fun i => ws[i]?) = wr.map some ∧ va_nd isR = true ∧ (∀ i ∈ isR, i ∉ isC) ∧ va_nd is = true ∧ ∀ u, is.map (fun i => (wr ++ w1 u)[i]?) = (w' u).map some)
    (st2 : S → List Value) (h9 : ∀ u, (rv u).toList ++ rest = st2 u) (k2 j2 : Nat) (h8 : k + rmy.cells = k2 ∧ j + rmy.slots = j2) (kk : ∀ u : S, ok u → K_ X k2 j2 (w' u) (pc + 3) lo (st2 u)) : K_ X k j ws pc lo st := by
  intro H locs ls hP hD hS hl
  refine w_back C hP hD hS isC hC (va_runS (As := av) C.F (hM H.size) (va_cwS nn C.w hG hw rfl rfl hdd (by rw [C.R]; exact hR)) ⟨Pg.blind, fun U hU hW => pg_call C hP hD hS isC hnC hC hU hW⟩ rfl hnn hl.1 hst (lv_room hW) hd (room_ok C hroom)) (fun u H1 locs1 ho hP1 hD1 hk1 hS1 => ?_)
  rw [h9 u, h8.1, h8.2]
  rcases hj with hj | ⟨isR, is, wr, j1, j2, j3, j4, j5⟩
  · obtain ⟨e1, e2⟩ := hj u
    rw [e1] at hP1
    exact kk u ho H1 locs1 ls (by rw [e2]; exact w_same hP hC hk1 hD hP1) (by rw [e2]; exact hD) hS1 hl
  · obtain ⟨hP2, hD2⟩ := w_join C hP hD hS isC isR is hC j1 j2 j3 j4 (j5 u) hk1 hP1 hD1
    exact kk u ho H1 locs1 ls hP2 hD2 hS1 hl
theorem k_callI (C : Cx X cc own Ts ret n rm) {S : Type} {ok : S → Prop} {w1 : S → va_W} {y : MethodName} {wsy ws' : List Cond} {rmy : Room} {b : Nat} (av : List Value) (nn : Nat) (hnn : av.length = nn) {wc : va_W} {bytes : ByteArray} {maxL ix : Nat}
    (hM : Ct (x_l X) (x_G X) y wsy rmy (.ref b :: av) wc ok (fun _ : S => none) w1) (hG : GoodIn Ts wsy) (hw : wsy = Cond.code y bytes maxL none :: ws') (iI0 iL0 iN0 : Nat) (h1 : Ts[iI0]? = some (.initialized y.cls)) (h2 : Ts[iL0]? = some (.methodLink own ix y)) (h3 : Ts[iN0]? = some (.instanceMethod y)) (hy1 : y.name = "<init>")
    (hdd : y.cls ≠ "java/lang/invoke/MethodHandle" ∧ y.cls ≠ "java/lang/invoke/VarHandle" ∧ (parseMethodDescriptor y.desc).map (fun d => d.parameters.length) = some nn) (hR : rmy.frames + 1 ≤ rm.frames ∧ 8 + (maxL + 11) + rmy.locals ≤ rm.locals)
    (isC : List Nat) (hnC : va_nd isC = true) (hC : isC.map (fun i => ws[i]?) = wc.map some) (rest : List Value) (hst : st = av.reverse ++ .ref b :: rest) (hW : (rest.map fun v => v.category).sum ≤ 8) (hroom : k + rmy.cells ≤ rm.cells ∧ j + rmy.slots ≤ rm.slots) (hd : decode cc pc = .ok (.invokespecial ix, 3))
    (w' : S → va_W) (hj : ∃ (isR is : List Nat) (wr : va_W), isR.map (fun i => ws[i]?) = wr.map some ∧ va_nd isR = true ∧ (∀ i ∈ isR, i ∉ isC) ∧ va_nd is = true ∧ ∀ u, is.map (fun i => (wr ++ w1 u)[i]?) = (w' u).map some)
    (k2 j2 : Nat) (h8 : k + rmy.cells = k2 ∧ j + rmy.slots = j2) (kk : ∀ u : S, ok u → K_ X k2 j2 (w' u) (pc + 3) lo rest) : K_ X k j ws pc lo st := by
  intro H locs ls hP hD hS hl
  refine w_back C hP hD hS isC hC (va_runI (As := av) (b := b) C.F (hM H.size) (cwI nn C.w hG hw rfl rfl (C.at iI0 h1) (C.at iL0 h2) (C.at iN0 h3) hy1 hdd (by rw [C.R]; exact hR)) ⟨Pg.blind, fun U hU hW => pg_call C hP hD hS isC hnC hC hU hW⟩ rfl hnn hl.1 hst (lv_room hW) hd (room_ok C hroom)) (fun u H1 locs1 ho hP1 hD1 hk1 hS1 => ?_)
  rw [h8.1, h8.2]
  obtain ⟨isR, is, wr, j1, j2, j3, j4, j5⟩ := hj
  obtain ⟨hP2, hD2⟩ := w_join C hP hD hS isC isR is hC j1 j2 j3 j4 (j5 u) hk1 hP1 hD1
  exact kk u ho H1 locs1 ls hP2 hD2 hS1 hl
theorem k_callSN (C : Cx X cc own Ts ret n rm) {S : Type} {ok : S → Prop} {rv : S → Option Value} {w1 : S → va_W} {y : MethodName} {wsy ws' : List Cond} {rmy : Room} (av : List Value) (nn : Nat) (hnn : av.length = nn) {wc : va_W} {bytes : ByteArray} {maxL ix : Nat} {rty : Option FieldType}
    (hM : Ct (x_l X) (x_G X) y wsy rmy av wc ok rv w1) (hG : GoodIn Ts wsy) (hw : wsy = Cond.code y bytes maxL rty :: ws')
    (iL : Nat) {host : String} (hL : nestM[iL]? = some (own, ix, y, host)) (iI0 iT0 : Nat) (h1 : Ts[iI0]? = some (.initialized y.cls)) (h2 : Ts[iT0]? = some (.static y)) (hdd : y.cls ≠ "java/lang/invoke/MethodHandle" ∧ y.cls ≠ "java/lang/invoke/VarHandle" ∧ (parseMethodDescriptor y.desc).map (fun d => d.parameters.length) = some nn) (hR : rmy.frames + 1 ≤ rm.frames ∧ 8 + (maxL + 11) + rmy.locals ≤ rm.locals)
    (isC : List Nat) (hnC : va_nd isC = true) (hC : isC.map (fun i => ws[i]?) = wc.map some) (rest : List Value) (hst : st = av.reverse ++ rest) (hW : (rest.map fun v => v.category).sum ≤ 8) (hroom : k + rmy.cells ≤ rm.cells ∧ j + rmy.slots ≤ rm.slots) (hd : decode cc pc = .ok (.invokestatic ix, 3))
    (w' : S → va_W) (hj : (∀ u, w1 u = wc ∧ w' u = ws) ∨ ∃ (isR is : List Nat) (wr : va_W), isR.map (fun i => ws[i]?) = wr.map some ∧ va_nd isR = true ∧ (∀ i ∈ isR, i ∉ isC) ∧ va_nd is = true ∧ ∀ u, is.map (fun i => (wr ++ w1 u)[i]?) = (w' u).map some)
    (st2 : S → List Value) (h9 : ∀ u, (rv u).toList ++ rest = st2 u) (k2 j2 : Nat) (h8 : k + rmy.cells = k2 ∧ j + rmy.slots = j2) (kk : ∀ u : S, ok u → K_ X k2 j2 (w' u) (pc + 3) lo (st2 u)) : K_ X k j ws pc lo st := by
  intro H locs ls hP hD hS hl
  refine w_back C hP hD hS isC hC (va_runSN (As := av) C.F (hM H.size) ⟨va_cnB nn C.w hG hw rfl rfl (C.nM iL hL) (C.at iI0 h1) hdd (by rw [C.R]; exact hR), C.at iT0 h2, trivial⟩ ⟨Pg.blind, fun U hU hW => pg_call C hP hD hS isC hnC hC hU hW⟩ rfl hnn hl.1 hst (lv_room hW) hd (room_ok C hroom)) (fun u H1 locs1 ho hP1 hD1 hk1 hS1 => ?_)
  rw [h9 u, h8.1, h8.2]
  rcases hj with hj | ⟨isR, is, wr, j1, j2, j3, j4, j5⟩
  · obtain ⟨e1, e2⟩ := hj u
    rw [e1] at hP1
    exact kk u ho H1 locs1 ls (by rw [e2]; exact w_same hP hC hk1 hD hP1) (by rw [e2]; exact hD) hS1 hl
  · obtain ⟨hP2, hD2⟩ := w_join C hP hD hS isC isR is hC j1 j2 j3 j4 (j5 u) hk1 hP1 hD1
    exact kk u ho H1 locs1 ls hP2 hD2 hS1 hl
theorem k_callIN (C : Cx X cc own Ts ret n rm) {S : Type} {ok : S → Prop} {w1 : S → va_W} {y : MethodName} {wsy ws' : List Cond} {rmy : Room} {b : Nat} (av : List Value) (nn : Nat) (hnn : av.length = nn) {wc : va_W} {bytes : ByteArray} {maxL ix : Nat}
    (hM : Ct (x_l X) (x_G X) y wsy rmy (.ref b :: av) wc ok (fun _ : S => none) w1) (hG : GoodIn Ts wsy) (hw : wsy = Cond.code y bytes maxL none :: ws') (iI0 iL0 iN0 : Nat) {host : String} (h1 : Ts[iI0]? = some (.initialized y.cls)) (h2 : nestM[iL0]? = some (own, ix, y, host)) (h3 : Ts[iN0]? = some (.instanceMethod y)) (hy1 : y.name = "<init>")
    (hdd : y.cls ≠ "java/lang/invoke/MethodHandle" ∧ y.cls ≠ "java/lang/invoke/VarHandle" ∧ (parseMethodDescriptor y.desc).map (fun d => d.parameters.length) = some nn) (hR : rmy.frames + 1 ≤ rm.frames ∧ 8 + (maxL + 11) + rmy.locals ≤ rm.locals)
    (isC : List Nat) (hnC : va_nd isC = true) (hC : isC.map (fun i => ws[i]?) = wc.map some) (rest : List Value) (hst : st = av.reverse ++ .ref b :: rest) (hW : (rest.map fun v => v.category).sum ≤ 8) (hroom : k + rmy.cells ≤ rm.cells ∧ j + rmy.slots ≤ rm.slots) (hd : decode cc pc = .ok (.invokespecial ix, 3))
    (w' : S → va_W) (hj : ∃ (isR is : List Nat) (wr : va_W), isR.map (fun i => ws[i]?) = wr.map some ∧ va_nd isR = true ∧ (∀ i ∈ isR, i ∉ isC) ∧ va_nd is = true ∧ ∀ u, is.map (fun i => (wr ++ w1 u)[i]?) = (w' u).map some)
    (k2 j2 : Nat) (h8 : k + rmy.cells = k2 ∧ j + rmy.slots = j2) (kk : ∀ u : S, ok u → K_ X k2 j2 (w' u) (pc + 3) lo rest) : K_ X k j ws pc lo st := by
  intro H locs ls hP hD hS hl
  refine w_back C hP hD hS isC hC (va_runIN (As := av) (b := b) C.F (hM H.size) ⟨va_cnB nn C.w hG hw rfl rfl (C.nM iL0 h2) (C.at iI0 h1) hdd (by rw [C.R]; exact hR), hy1, C.at iN0 h3⟩ ⟨Pg.blind, fun U hU hW => pg_call C hP hD hS isC hnC hC hU hW⟩ rfl hnn hl.1 hst (lv_room hW) hd (room_ok C hroom)) (fun u H1 locs1 ho hP1 hD1 hk1 hS1 => ?_)
  rw [h8.1, h8.2]
  obtain ⟨isR, is, wr, j1, j2, j3, j4, j5⟩ := hj
  obtain ⟨hP2, hD2⟩ := w_join C hP hD hS isC isR is hC j1 j2 j3 j4 (j5 u) hk1 hP1 hD1
  exact kk u ho H1 locs1 ls hP2 hD2 hS1 hl
theorem k_objInit (C : Cx X cc own Ts ret n rm) {ix a : Nat} (i1 i2 i3 : Nat) (h1 : Ts[i1]? = some (.methodLink own ix Lib.objectInit)) (h2 : Ts[i2]? = some (.instanceMethod Lib.objectInit)) (h3 : Ts[i3]? = some (.code Lib.objectInit ⟨#[0xb1]⟩ 1 none)) (hf : 1 ≤ rm.frames) (hL : (st.map fun v => v.category).sum + 12 ≤ rm.locals) (hd : decode cc pc = .ok (.invokespecial ix, 3)) (kk : K_ X k j ws (pc + 3) lo st) : K_ X k j ws pc lo (.ref a :: st) :=
  fun H locs ls hP hD hS hl => W.objInit (rest := st) C.e C.b C.o (C.at i1 h1) (C.at i2 h2) (C.at i3 h3) rfl (hl.1.trans C.nn.symm) rfl hd (by rw [C.R]; exact hf) (by rw [C.R]; simpa [JFrame.monitorRoom] using hL) (kk H locs ls hP hD hS hl)
theorem iI_ltif {a b x y : Int} (ha : -2147483648 ≤ a ∧ a < 2147483648) (hb : -2147483648 ≤ b ∧ b < 2147483648) : (if iI a < iI b then iI x else iI y) = iI (if a < b then x else y) := by
  by_cases h : a < b
  · rw [if_pos h, if_pos ((iI_lt ha.1 ha.2 hb.1 hb.2).mpr h)]
  · rw [if_neg h, if_neg (fun z => h ((iI_lt ha.1 ha.2 hb.1 hb.2).mp z))]
theorem k_max (C : Cx X cc own Ts ret n rm) {ix : Nat} {a b : Int} (i1 i2 i3 i4 : Nat) (ha : -2147483648 ≤ a ∧ a < 2147483648) (hb : -2147483648 ≤ b ∧ b < 2147483648) (h1 : Ts[i1]? = some (.methodLink own ix Lib.Math.max.name)) (h2 : Ts[i2]? = some (.static Lib.Math.max.name)) (h3 : Ts[i3]? = some (.initialized "java/lang/Math")) (h4 : Ts[i4]? = some (.code Lib.Math.max.name Lib.Math.max.code 2 (some .int))) (hf : 1 ≤ rm.frames) (hL : (st.map fun v => v.category).sum + 13 ≤ rm.locals) (hk : k ≤ rm.cells ∧ j ≤ rm.slots) (hd : decode cc pc = .ok (.invokestatic ix, 3)) (kk : ∀ z : Int, (z = a ∨ z = b) ∧ a ≤ z ∧ b ≤ z → K_ X k j ws (pc + 3) lo (.int (iI z) :: st)) : K_ X k j ws pc lo (.int (iI b) :: .int (iI a) :: st) :=
  fun H locs ls hP hD hS hl => va_mmax C.e C.b (C.nn.trans hl.1.symm) C.o (C.at i1 h1) (C.at i2 h2) (C.at i3 h3) (C.at i4 h4) (by rw [C.R]; exact hf) (by rw [C.R]; exact hL) (by rw [C.R]; exact hk.1) (by rw [C.R]; exact hk.2) hd (by
    rw [iI_ltif ha hb]
    refine kk _ ?_ H locs ls hP hD hS hl
    by_cases h : a < b
    · rw [if_pos h]; omega
    · rw [if_neg h]; omega)
theorem k_min (C : Cx X cc own Ts ret n rm) {ix : Nat} {a b : Int} (i1 i2 i3 i4 : Nat) (ha : -2147483648 ≤ a ∧ a < 2147483648) (hb : -2147483648 ≤ b ∧ b < 2147483648) (h1 : Ts[i1]? = some (.methodLink own ix Lib.Math.min.name)) (h2 : Ts[i2]? = some (.static Lib.Math.min.name)) (h3 : Ts[i3]? = some (.initialized "java/lang/Math")) (h4 : Ts[i4]? = some (.code Lib.Math.min.name Lib.Math.min.code 2 (some .int))) (hf : 1 ≤ rm.frames) (hL : (st.map fun v => v.category).sum + 13 ≤ rm.locals) (hk : k ≤ rm.cells ∧ j ≤ rm.slots) (hd : decode cc pc = .ok (.invokestatic ix, 3)) (kk : ∀ z : Int, (z = a ∨ z = b) ∧ z ≤ a ∧ z ≤ b → K_ X k j ws (pc + 3) lo (.int (iI z) :: st)) : K_ X k j ws pc lo (.int (iI b) :: .int (iI a) :: st) :=
  fun H locs ls hP hD hS hl => va_mmin C.e C.b (C.nn.trans hl.1.symm) C.o (C.at i1 h1) (C.at i2 h2) (C.at i3 h3) (C.at i4 h4) (by rw [C.R]; exact hf) (by rw [C.R]; exact hL) (by rw [C.R]; exact hk.1) (by rw [C.R]; exact hk.2) hd (by
    rw [iI_ltif hb ha]
    refine kk _ ?_ H locs ls hP hD hS hl
    by_cases h : b < a
    · rw [if_pos h]; omega
    · rw [if_neg h]; omega)
end KC
