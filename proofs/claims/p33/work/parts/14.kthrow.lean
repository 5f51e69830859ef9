/-! throwing, and calls of what may throw -/
section KT
variable {X : KX} {cc : ByteArray} {own : String} {Ts : List Cond} {ret : Option FieldType} {n : Nat} {rm : Room} {k j pc : Nat} {ws : va_W} {lo lo' : List (Nat × Value)} {st : List Value}
def exS : List String := ["java/lang/RuntimeException", "java/lang/Exception"]
/-- what a throw owes: the goal out of vx_MQ -/
def Thr (X : KX) {V : Type} (okx : V → Prop) (ex : V → String) (wx : V → va_W) : Prop :=
  ∃ Qc, x_Q X = vx_MQ (x_b X) Qc (XCg (x_G X) okx ex wx (x_A X)) (x_a X) (x_s X) (x_R X).cells (x_R X).slots (x_A X)
theorem k_throw (C : Cx X cc own Ts ret n rm) {V : Type} {okx : V → Prop} {ex : V → String} {wx : V → va_W} (hT : Thr X okx ex wx) (htab : ∀ x ∈ (x_c X).exceptionTable.toList, False) (hl : (x_l X).stackTraces = false) (ho : own = "StruckCounts") {cls text : String} {ik is ic : Nat} (iS : Nat) (hS0 : exT[iS]? = some (is, text)) (iC : Nat) (hC0 : exC[iC]? = some cls)
    (iK iI0 : Nat) (h1 : Ts[iK]? = some (.classLink own ik cls)) (h2 : Ts[iI0]? = some (.initialized cls)) (hcls : Bundle.fit cls = true) (hnm : ∀ n ∈ exS, Bundle.fit n = true) (hg : ∀ w ∈ (vx_atS own ic cls exS).filter goodWord, w ∈ Ts) (hb : ∀ w ∈ (vx_atS own ic cls exS).filter (fun w => !goodWord w), w ∈ Cond.castable cls cls :: exD.map Cond.declares) (hot : ∀ w ∈ Cond.classLink own ik cls :: Cond.initialized cls :: vx_atS own ic cls exS, vx_ot w = true)
    (d0 : decode cc pc = .ok (.new ik, 3)) (d3 : decode cc (pc + 3) = .ok (.dup, 1)) (d4 : decode cc (pc + 4) = .ok (.ldc is, 2)) (d6 : decode cc (pc + 6) = .ok (.invokespecial ic, 3)) (d9 : decode cc (pc + 9) = .ok (.athrow, 1))
    (hf : 5 < rm.frames) (hlo : (st.map fun v => v.category).sum + 82 ≤ rm.locals) (hc : k + 1 ≤ rm.cells) (hs : j + 6 ≤ rm.slots) (v : V) (hv : ex v = cls) (hok : okx v) (hw : wx v = ws) : K_ X k j ws pc lo st := by
  intro H locs ls hP hD hS hL
  subst ho
  obtain ⟨Qc, hQ⟩ := hT
  obtain ⟨sa, hsa⟩ := C.S.2.2.2.2.2.2.2.1 _ (List.mem_of_getElem? hS0)
  have hca := C.S.2.2.2.2.2.2.2.2.2.2.1 _ (List.mem_of_getElem? hC0)
  have hat := vx_hat (args := x_a X) (s := x_s X) (L := vx_atS "StruckCounts" ic cls exS) (B := Cond.castable cls cls :: exD.map Cond.declares) (fun w hw => C.w w (hg w hw)) hb (vx_c (hca.use rfl) (fun w hw => by
    obtain ⟨q, hq, rfl⟩ := List.mem_map.mp hw
    exact (C.S.2.2.2.2.2.2.2.2.2.2.2.2.1 q hq).use rfl))
  rw [hQ]
  refine vx_throwS (A := x_A X) C.e C.b hl C.o hcls hnm (C.at iK h1) (C.at iI0 h2) hsa hat hot C.S.2.2.2.2.2.2.1.1 C.S.2.2.2.2.2.2.1.2 hS (hL.1.trans C.nn.symm) d0 d3 d4 d6 d9 (fun x hx => absurd (htab x hx) (fun z => z)) (by rw [C.R]; exact hf) (by rw [C.R]; exact hlo) (by rw [C.R]; exact hc) (by rw [C.R]; exact hs) C.l (fun t hA hz hq => ?_) hS.2.2 (by rw [C.R]; exact hc) (by rw [C.R]; exact hs)
  refine ⟨⟨v, hv.symm, hok, ?_, by rw [hw]; exact hD⟩, Nat.le_trans hS.1 hz, fun q h1 h2 => ?_⟩
  · rw [hw]
    exact hP.kept fun i q hi => hq q.1 (hP i q hi).lt
  · rw [hq q (Nat.lt_of_lt_of_le h1 hS.1)]
    exact hS.2.1 q h1 h2
/-- behind a call that returns or throws -/
theorem w_backX (C : Cx X cc own Ts ret n rm) {S V : Type} {ok : S → Prop} {rv : S → Option Value} {w1 : S → va_W} {okx : V → Prop} {ex : V → String} {wx : V → va_W} {wc : va_W} {H : Heap} {locs : List Loc} {ls : Array Slot} {rest st0 : List Value} {mc ms : Nat} {a : Array Value}
    (hP : va_P (g_D (x_G X)) vwCl ws H) (hD : va_D (x_A X) ws) (hS : va_S (x_A X) (x_s X).heap H locs) (isC : List Nat) (hC : isC.map (fun i => ws[i]?) = wc.map some)
    (hr : vx_Run (x_p X) (x_l X) (x_e X) (x_R X) (x_s X) (x_m X) (x_a X) (x_b X) (x_M X) (x_c X) H locs k j mc ms (F0 (x_m X) pc ls st0) rest (Qg (x_G X) ok rv w1 (va_A wc H.size) a) (XCg (x_G X) okx ex wx (va_A wc H.size)) (va_A wc H.size))
    (kx : ∀ (v : V) (H1 : Heap) (locs1 : List Loc) (ce : Cell) (q9 : Addr), okx v → va_P (g_D (x_G X)) vwCl (wx v) H1 → va_D (va_A wc H.size) (wx v) → (∀ q : Nat, q < H.size → ¬ va_A wc H.size q → H1[q]? = H[q]?) → va_S (x_A X) (x_s X).heap H1 locs1 → H1[q9]? = some ce → ce.vm = .none → (x_s X).vm.findClass (ex v) = some ce.cls →
      vx_W (x_p X) (x_l X) (x_e X) (x_R X) (x_s X) (x_m X) (x_a X) (x_b X) (x_M X) (x_c X) H1 locs1 (k + mc) (j + ms) (x_Q X) (F0 (x_m X) pc ls rest) q9)
    (kk : ∀ (u : S) (H1 : Heap) (locs1 : List Loc), ok u → va_P (g_D (x_G X)) vwCl (w1 u) H1 → va_D (va_A wc H.size) (w1 u) → (∀ q : Nat, q < H.size → ¬ va_A wc H.size q → H1[q]? = H[q]?) → va_S (x_A X) (x_s X).heap H1 locs1 →
      W (x_p X) (x_l X) (x_e X) (x_R X) (x_s X) (x_m X) (x_a X) (x_b X) (x_M X) (x_c X) H1 locs1 (k + mc) (j + ms) (x_Q X) (F0 (x_m X) (pc + 3) ls ((rv u).toList ++ rest))) :
    W (x_p X) (x_l X) (x_e X) (x_R X) (x_s X) (x_m X) (x_a X) (x_b X) (x_M X) (x_c X) H locs k j (x_Q X) (F0 (x_m X) pc ls st0) := by
  have hF := va_free hD hS C.A isC hC
  have keep : ∀ (T' t : State) (L : List Loc), T'.heap = t.heap → (∀ q ∈ L, va_A wc H.size q.base) → H.size ≤ t.heap.size → (∀ q : Nat, q < H.size → ¬ va_A wc H.size q → t.heap[q]? = H[q]?) → va_S (x_A X) (x_s X).heap T'.heap (locs ++ L) := fun T' t L e1 hL hz hk =>
    ⟨Nat.le_trans hS.1 (by rw [e1]; exact hz), fun q h1 h2 => by rw [e1, hk q (Nat.lt_of_lt_of_le h1 hS.1) (fun z => h2 (hF q z))]; exact hS.2.1 q h1 h2, fun q hq => by
      rcases List.mem_append.mp hq with h | h
      · exact hS.2.2 q h
      · exact hF _ (hL q h)⟩
  intro T hT Y
  rcases hr T hT Y with ⟨v, st₀, t, T', L, h0, Y', hL, e1, e2, ⟨⟨u, hv, hp, hb, hd⟩, hz, hk⟩, go⟩ | ⟨q, st₀, t, T', L, E, ce, h0, Y', hL, e1, e2, ⟨⟨v, hE, hp, hb, hd⟩, hz, hk⟩, hce, hcv, hcl, go⟩
  · cases hv
    rw [h0] at hz hk
    obtain ⟨t2, a1, b1⟩ := kk u T'.heap (locs ++ L) hp (by rw [e1]; exact hb) hd (fun q h1 h2 => by rw [e1]; exact hk q h1 h2) (keep T' t L e1 hL hz hk) T' rfl Y'
    exact ⟨t2, go t2 a1, b1⟩
  · rw [h0] at hz hk
    subst hE
    obtain ⟨t2, a1, b1⟩ := kx v T'.heap (locs ++ L) ce q hp (by rw [e1]; exact hb) hd (fun q h1 h2 => by rw [e1]; exact hk q h1 h2) (keep T' t L e1 hL hz hk) (by rw [e1]; exact hce) hcv hcl T' rfl Y'
    exact ⟨t2, go.trans a1, b1⟩
/-- a thrown thing goes on to the caller -/
theorem w_outX (C : Cx X cc own Ts ret n rm) {V : Type} {okx : V → Prop} {ex : V → String} {wx : V → va_W} (hT : Thr X okx ex wx) (htab : ∀ x ∈ (x_c X).exceptionTable.toList, False) {H1 : Heap} {locs1 : List Loc} {ls : Array Slot} {rest : List Value} {ce : Cell} {q9 : Addr} {k2 j2 : Nat} (hk : k2 ≤ rm.cells) (hj : j2 ≤ rm.slots) (v : V) (hok : okx v) (hP : va_P (g_D (x_G X)) vwCl (wx v) H1) (hD : va_D (x_A X) (wx v)) (hS : va_S (x_A X) (x_s X).heap H1 locs1) (hce : H1[q9]? = some ce) (hcv : ce.vm = .none) (hcl : (x_s X).vm.findClass (ex v) = some ce.cls) :
    vx_W (x_p X) (x_l X) (x_e X) (x_R X) (x_s X) (x_m X) (x_a X) (x_b X) (x_M X) (x_c X) H1 locs1 k2 j2 (x_Q X) (F0 (x_m X) pc ls rest) q9 := by
  obtain ⟨Qc, hQ⟩ := hT
  rw [hQ]
  exact vx_out (fun x hx => absurd (htab x hx) (fun z => z)) C.l hce hcv hcl (fun t ht hA => ⟨⟨v, rfl, hok, by rw [ht]; exact hP, hD⟩, hS.F ht⟩) hS.2.2 (by rw [C.R]; exact hk) (by rw [C.R]; exact hj)
theorem k_callVx (C : Cx X cc own Ts ret n rm) {S V V2 : Type} {ok : S → Prop} {rv : S → Option Value} {w1 : S → va_W} {okx : V → Prop} {ex : V → String} {wx : V → va_W} {okx2 : V2 → Prop} {ex2 : V2 → String} {wx2 : V2 → va_W} (hT : Thr X okx2 ex2 wx2) (htab : ∀ x ∈ (x_c X).exceptionTable.toList, False) {y : MethodName} {wsy ws' : List Cond} {rmy : Room} {b : Nat} (av : List Value) (nn : Nat) (hnn : av.length = nn) {wc : va_W} {bytes : ByteArray} {maxL ix : Nat} {rty : Option FieldType} {Cn : String}
    (hM : Cxt (x_l X) (x_G X) y wsy rmy (.ref b :: av) wc ok rv w1 okx ex wx) (hG : GoodIn Ts (wsV own ix Cn y wsy)) (hw : wsy = Cond.code y bytes maxL rty :: ws')
    (hdd : y.cls = Cn ∧ y.cls ≠ "java/lang/invoke/MethodHandle" ∧ y.cls ≠ "java/lang/invoke/VarHandle" ∧ (parseMethodDescriptor y.desc).map (fun d => d.parameters.length) = some nn) (hR : rmy.frames + 1 ≤ rm.frames ∧ 8 + (maxL + 11) + rmy.locals ≤ rm.locals)
    (q0 : Nat) {ci : Nat} {q : vw_C} {fs : List Value} (he : ws[q0]? = some (b, .inr (ci, fs))) (hc : vwCl[ci]? = some q) (hq : q.1 = Cn)
    (isC isR is : List Nat) (hnC : va_nd isC = true) (hC : isC.map (fun i => ws[i]?) = wc.map some) (rest : List Value) (hst : st = av.reverse ++ .ref b :: rest) (hW : (rest.map fun v => v.category).sum ≤ 8) (hroom : k + rmy.cells ≤ rm.cells ∧ j + rmy.slots ≤ rm.slots) (hd : decode cc pc = .ok (.invokevirtual ix, 3))
    (w' : S → va_W) (wx' : V → va_W) {wr : va_W} (j1 : isR.map (fun i => ws[i]?) = wr.map some) (j2' : va_nd isR = true) (j3 : ∀ i ∈ isR, i ∉ isC) (j4 : va_nd is = true) (j5 : ∀ u, is.map (fun i => (wr ++ w1 u)[i]?) = (w' u).map some) (j6 : ∀ v, is.map (fun i => (wr ++ wx v)[i]?) = (wx' v).map some)
    (st2 : S → List Value) (h9 : ∀ u, (rv u).toList ++ rest = st2 u) (k2 j2 : Nat) (h8 : k + rmy.cells = k2 ∧ j + rmy.slots = j2)
    (kx : ∀ v : V, okx v → ∃ v2 : V2, ex2 v2 = ex v ∧ okx2 v2 ∧ wx2 v2 = wx' v)
    (kk : ∀ u : S, ok u → K_ X k2 j2 (w' u) (pc + 3) lo (st2 u)) : K_ X k j ws pc lo st := by
  intro H locs ls hP hD hS hl
  refine w_backX C hP hD hS isC hC (vx_runV (As := av) (b := b) C.F (hM H.size) (cwV nn C.w hG hw rfl rfl hdd (by rw [C.R]; exact hR)) ⟨Pg.blind, hq ▸ va_recv C.K hP hc he, fun U hU hW => pg_call C hP hD hS isC hnC hC hU hW⟩ rfl hnn hl.1 hst (lv_room hW) hd (room_ok C hroom)) (fun v H1 locs1 ce q9 ho hP1 hD1 hk1 hS1 hce hcv hcl => ?_) (fun u H1 locs1 ho hP1 hD1 hk1 hS1 => ?_)
  · obtain ⟨hP2, hD2⟩ := w_join C hP hD hS isC isR is hC j1 j2' j3 j4 (j6 v) hk1 hP1 hD1
    obtain ⟨v2, e1, e2, e3⟩ := kx v ho
    exact w_outX C hT htab hroom.1 hroom.2 v2 e2 (by rw [e3]; exact hP2) (by rw [e3]; exact hD2) hS1 hce hcv (by rw [e1]; exact hcl)
  · rw [h9 u, h8.1, h8.2]
    obtain ⟨hP2, hD2⟩ := w_join C hP hD hS isC isR is hC j1 j2' j3 j4 (j5 u) hk1 hP1 hD1
    exact kk u ho H1 locs1 ls hP2 hD2 hS1 hl
theorem k_callSx (C : Cx X cc own Ts ret n rm) {S V V2 : Type} {ok : S → Prop} {rv : S → Option Value} {w1 : S → va_W} {okx : V → Prop} {ex : V → String} {wx : V → va_W} {okx2 : V2 → Prop} {ex2 : V2 → String} {wx2 : V2 → va_W} (hT : Thr X okx2 ex2 wx2) (htab : ∀ x ∈ (x_c X).exceptionTable.toList, False) {y : MethodName} {wsy ws' : List Cond} {rmy : Room} (av : List Value) (nn : Nat) (hnn : av.length = nn) {wc : va_W} {bytes : ByteArray} {maxL ix : Nat} {rty : Option FieldType}
    (hM : Cxt (x_l X) (x_G X) y wsy rmy av wc ok rv w1 okx ex wx) (hG : GoodIn Ts (va_wsS own ix y wsy)) (hw : wsy = Cond.code y bytes maxL rty :: ws')
    (hdd : y.cls ≠ "java/lang/invoke/MethodHandle" ∧ y.cls ≠ "java/lang/invoke/VarHandle" ∧ (parseMethodDescriptor y.desc).map (fun d => d.parameters.length) = some nn) (hR : rmy.frames + 1 ≤ rm.frames ∧ 8 + (maxL + 11) + rmy.locals ≤ rm.locals)
    (isC isR is : List Nat) (hnC : va_nd isC = true) (hC : isC.map (fun i => ws[i]?) = wc.map some) (rest : List Value) (hst : st = av.reverse ++ rest) (hW : (rest.map fun v => v.category).sum ≤ 8) (hroom : k + rmy.cells ≤ rm.cells ∧ j + rmy.slots ≤ rm.slots) (hd : decode cc pc = .ok (.invokestatic ix, 3))
    (w' : S → va_W) (wx' : V → va_W) {wr : va_W} (j1 : isR.map (fun i => ws[i]?) = wr.map some) (j2' : va_nd isR = true) (j3 : ∀ i ∈ isR, i ∉ isC) (j4 : va_nd is = true) (j5 : ∀ u, is.map (fun i => (wr ++ w1 u)[i]?) = (w' u).map some) (j6 : ∀ v, is.map (fun i => (wr ++ wx v)[i]?) = (wx' v).map some)
    (st2 : S → List Value) (h9 : ∀ u, (rv u).toList ++ rest = st2 u) (k2 j2 : Nat) (h8 : k + rmy.cells = k2 ∧ j + rmy.slots = j2)
    (kx : ∀ v : V, okx v → ∃ v2 : V2, ex2 v2 = ex v ∧ okx2 v2 ∧ wx2 v2 = wx' v)
    (kk : ∀ u : S, ok u → K_ X k2 j2 (w' u) (pc + 3) lo (st2 u)) : K_ X k j ws pc lo st := by
  intro H locs ls hP hD hS hl
  refine w_backX C hP hD hS isC hC (vx_runS (As := av) C.F (hM H.size) (va_cwS nn C.w hG hw rfl rfl hdd (by rw [C.R]; exact hR)) ⟨Pg.blind, fun U hU hW => pg_call C hP hD hS isC hnC hC hU hW⟩ rfl hnn hl.1 hst (lv_room hW) hd (room_ok C hroom)) (fun v H1 locs1 ce q9 ho hP1 hD1 hk1 hS1 hce hcv hcl => ?_) (fun u H1 locs1 ho hP1 hD1 hk1 hS1 => ?_)
  · obtain ⟨hP2, hD2⟩ := w_join C hP hD hS isC isR is hC j1 j2' j3 j4 (j6 v) hk1 hP1 hD1
    obtain ⟨v2, e1, e2, e3⟩ := kx v ho
    exact w_outX C hT htab hroom.1 hroom.2 v2 e2 (by rw [e3]; exact hP2) (by rw [e3]; exact hD2) hS1 hce hcv (by rw [e1]; exact hcl)
  · rw [h9 u, h8.1, h8.2]
    obtain ⟨hP2, hD2⟩ := w_join C hP hD hS isC isR is hC j1 j2' j3 j4 (j5 u) hk1 hP1 hD1
    exact kk u ho H1 locs1 ls hP2 hD2 hS1 hl
end KT
theorem tst_exw : ∀ w ∈ (vx_atS "StruckCounts" 48 "java/lang/IllegalArgumentException" exS).filter (fun w => !goodWord w), w ∈ Cond.castable "java/lang/IllegalArgumentException" "java/lang/IllegalArgumentException" :: exD.map Cond.declares := by decide +kernel
