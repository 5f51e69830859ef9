section KTW
variable {X : KX} {cc : ByteArray} {own : String} {Ts : List Cond} {ret : Option FieldType} {n : Nat} {rm : Room} {k j pc : Nat} {ws : va_W} {lo lo' : List (Nat × Value)} {st : List Value}
theorem k_throwW (C : Cx X cc own Ts ret n rm) {V : Type} {okx : V → Prop} {ex : V → String} {wx : V → va_W} (hT : Thr X okx ex wx) (htab : ∀ x ∈ (x_c X).exceptionTable.toList, False) (hl : (x_l X).stackTraces = false) (ho : own = "StruckCounts") {cls text : String} {ik is ic : Nat} (iS : Nat) (hS0 : exT[iS]? = some (is, text)) (iC : Nat) (hC0 : exC[iC]? = some cls)
    (iK iI0 : Nat) (h1 : Ts[iK]? = some (.classLink own ik cls)) (h2 : Ts[iI0]? = some (.initialized cls)) (hcls : Bundle.fit cls = true) (hnm : ∀ n ∈ exS, Bundle.fit n = true) (hg : ∀ w ∈ (vx_atS own ic cls exS).filter goodWord, w ∈ Ts) (hb : ∀ w ∈ (vx_atS own ic cls exS).filter (fun w => !goodWord w), w ∈ Cond.castable cls cls :: exD.map Cond.declares) (hot : ∀ w ∈ Cond.classLink own ik cls :: Cond.initialized cls :: vx_atS own ic cls exS, vx_ot w = true)
    (d0 : decode cc pc = .ok (.new ik, 3)) (d3 : decode cc (pc + 3) = .ok (.dup, 1)) (d4 : decode cc (pc + 4) = .ok (.ldc_w is, 3)) (d7 : decode cc (pc + 7) = .ok (.invokespecial ic, 3)) (d10 : decode cc (pc + 10) = .ok (.athrow, 1))
    (hf : 5 < rm.frames) (hlo : (st.map fun v => v.category).sum + 82 ≤ rm.locals) (hc : k + 1 ≤ rm.cells) (hs : j + 6 ≤ rm.slots) (v : V) (hv : ex v = cls) (hok : okx v) (hw : wx v = ws) : K_ X k j ws pc lo st := by
  intro H locs ls hP hD hS hL
  subst ho
  obtain ⟨Qc, hQ⟩ := hT
  obtain ⟨sa, hsa⟩ := C.S.2.2.2.2.2.2.2.1 _ (List.mem_of_getElem? hS0)
  have hca := C.S.2.2.2.2.2.2.2.2.2.2.1 _ (List.mem_of_getElem? hC0)
  have hat := vx_hat (args := x_a X) (s := x_s X) (L := vx_atS "StruckCounts" ic cls exS) (B := Cond.castable cls cls :: exD.map Cond.declares) (fun w hw => C.w w (hg w hw)) hb (vx_c (hca.use rfl) (fun w hw => by
    obtain ⟨q, hq, rfl⟩ := List.mem_map.mp hw
    exact (C.S.2.2.2.2.2.2.2.2.2.2.2.2.1 q hq).use rfl))
  rw [hQ]
  refine vx_throwSW (A := x_A X) C.e C.b hl C.o hcls hnm (C.at iK h1) (C.at iI0 h2) hsa hat hot C.S.2.2.2.2.2.2.1.1 C.S.2.2.2.2.2.2.1.2 hS (hL.1.trans C.nn.symm) d0 d3 d4 d7 d10 (fun x hx => absurd (htab x hx) (fun z => z)) (by rw [C.R]; exact hf) (by rw [C.R]; exact hlo) (by rw [C.R]; exact hc) (by rw [C.R]; exact hs) C.l (fun t hA hz hq => ?_) hS.2.2 (by rw [C.R]; exact hc) (by rw [C.R]; exact hs)
  refine ⟨⟨v, hv.symm, hok, ?_, by rw [hw]; exact hD⟩, Nat.le_trans hS.1 hz, fun q h1 h2 => ?_⟩
  · rw [hw]
    exact hP.kept fun i q hi => hq q.1 (hP i q hi).lt
  · rw [hq q (Nat.lt_of_lt_of_le h1 hS.1)]
    exact hS.2.1 q h1 h2
end KTW
