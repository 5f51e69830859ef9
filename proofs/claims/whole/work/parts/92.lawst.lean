/-! what holds at the law's entry: classes, arrays, statics -/
abbrev gvF : List Cond := flatC (Jvm.Cond.and given_1 narrow_1)
theorem ls_arr {s : State} {args : Array Value} {ty : FieldType} (h : (Cond.arrayClass ty).before args s = true) (h0 : ∀ C, ty ≠ .object C) : ∃ cA : ClassId, ArrOfT s cA ty ∧ va_RA s cA ty := by
  obtain ⟨c, k, comp, h1, h2, h3⟩ := Cond.arrayClass_spec h
  refine ⟨c, fun n z => ⟨fun k h => (by cases h), k, h2, comp, h3⟩, ?_⟩
  cases ty with
  | object C => exact absurd rfl (h0 C)
  | _ => exact h1
theorem ls_cls {s : State} {args : Array Value} (hts : ∀ w ∈ lw_tbl, w.before args s = true) : ∃ D : va_G, ∀ (k : Nat) (q : vw_C), vwCl[k]? = some q → u_Kn s q.1 q.2.1 q.2.2 (D.1 k) (D.2 k) := by
  obtain ⟨c0, i0, h0⟩ := u_known (C := RX0) (T := TX0) (N := 5) (n := 5) hts inX0 (hts (.instantiable RX0 5) (by decide +kernel))
  obtain ⟨c1, i1, h1⟩ := u_known (C := RX1) (T := TX1) (N := 1) (n := 1) hts inX1 (hts (.instantiable RX1 1) (by decide +kernel))
  obtain ⟨c2, i2, h2⟩ := u_known (C := RX2) (T := TX2) (N := 5) (n := 5) hts inX2 (hts (.instantiable RX2 5) (by decide +kernel))
  obtain ⟨c3, i3, h3⟩ := u_known (C := RX3) (T := TX3) (N := 5) (n := 5) hts inX3 (hts (.instantiable RX3 5) (by decide +kernel))
  obtain ⟨c4, i4, h4⟩ := u_known (C := RX4) (T := TX4) (N := 7) (n := 7) hts inX4 (hts (.instantiable RX4 7) (by decide +kernel))
  obtain ⟨c5, i5, h5⟩ := u_known (C := RX6) (T := TX6) (N := 5) (n := 5) hts inX6 (hts (.instantiable RX6 5) (by decide +kernel))
  obtain ⟨c6, i6, h6⟩ := u_known (C := RX7) (T := TX7) (N := 12) (n := 12) hts inX7 (hts (.instantiable RX7 12) (by decide +kernel))
  refine ⟨(fun k => if k = 0 then c0 else if k = 1 then c1 else if k = 2 then c2 else if k = 3 then c3 else if k = 4 then c4 else if k = 5 then c5 else c6, fun k => if k = 0 then i0 else if k = 1 then i1 else if k = 2 then i2 else if k = 3 then i3 else if k = 4 then i4 else if k = 5 then i5 else i6), ?_⟩
  intro k q hq
  match k, hq with
  | 0, hq => cases hq; exact h0
  | 1, hq => cases hq; exact h1
  | 2, hq => cases hq; exact h2
  | 3, hq => cases hq; exact h3
  | 4, hq => cases hq; exact h4
  | 5, hq => cases hq; exact h5
  | 6, hq => cases hq; exact h6
  | k + 7, hq => simp [vwCl] at hq
theorem ls_all {α : Type} {L : List α} {P : α → Bool} (h : L.all P = true) : ∀ x ∈ L, P x = true := List.all_eq_true.mp h
theorem ls_sp {j : Nat} (hj : j < 65) : Cond.eq (.elem (.static "StruckCounts" "SMALL_PRIMES" "[I") (.int (Int32.ofNat j))) (.int (iI (spA j))) ∈ gvF := of_decide_eq_true (all_lt (N := 65) (P := fun j => decide (Cond.eq (.elem (.static "StruckCounts" "SMALL_PRIMES" "[I") (.int (Int32.ofNat j))) (.int (iI (spA j))) ∈ gvF)) (by decide +kernel) hj)
theorem ls_gp {j : Nat} (hj : j < 4) : Cond.eq (.elem (.static "StruckCounts" "GROUP_POWERS" "[J") (.int (Int32.ofNat j))) (.long (jL (gpA j))) ∈ gvF := of_decide_eq_true (all_lt (N := 4) (P := fun j => decide (Cond.eq (.elem (.static "StruckCounts" "GROUP_POWERS" "[J") (.int (Int32.ofNat j))) (.long (jL (gpA j))) ∈ gvF)) (by decide +kernel) hj)
abbrev wdC : String := "StruckCounts$Word"
abbrev wdD : String := "LStruckCounts$Word;"
def wdSt : List Nat := [53, 60, 63, 66]
theorem ls_wd {j : Nat} (hj : j < 4) : Cond.eq (.elem (.static "StruckCounts" "WORDS" "[LStruckCounts$Word;") (.int (Int32.ofNat j))) (.static wdC (wdN.getD j "") wdD) ∈ gvF := of_decide_eq_true (all_lt (N := 4) (P := fun j => decide (Cond.eq (.elem (.static "StruckCounts" "WORDS" "[LStruckCounts$Word;") (.int (Int32.ofNat j))) (.static wdC (wdN.getD j "") wdD) ∈ gvF)) (by decide +kernel) hj)
theorem ls_w1 {j : Nat} (hj : j < 4) : Cond.laysStatic wdC (wdN.getD j "") wdD ∈ lw_tbl := of_decide_eq_true (all_lt (N := 4) (P := fun j => decide (Cond.laysStatic wdC (wdN.getD j "") wdD ∈ lw_tbl)) (by decide +kernel) hj)
theorem ls_w2 {j : Nat} (hj : j < 4) : Cond.exactly (.static wdC (wdN.getD j "") wdD) wdC ∈ gvF := of_decide_eq_true (all_lt (N := 4) (P := fun j => decide (Cond.exactly (.static wdC (wdN.getD j "") wdD) wdC ∈ gvF)) (by decide +kernel) hj)
theorem ls_w3 : ∀ q ∈ wdF, ∀ i, i < 4 → Cond.eq (.field (.static wdC (wdN.getD i "") wdD) q.1 q.2.1 q.2.2.1) (.int (q.2.2.2.getD i 0)) ∈ gvF := fun q hq i hi => of_decide_eq_true (all_lt (N := 4) (P := fun i => decide (Cond.eq (.field (.static wdC (wdN.getD i "") wdD) q.1 q.2.1 q.2.2.1) (.int (q.2.2.2.getD i 0)) ∈ gvF)) (ls_all (L := wdF) (P := fun q => (List.range 4).all fun i => decide (Cond.eq (.field (.static wdC (wdN.getD i "") wdD) q.1 q.2.1 q.2.2.1) (.int (q.2.2.2.getD i 0)) ∈ gvF)) (by decide +kernel) q hq) hi)
theorem ls_w4 {i j : Nat} (hi : i < 4) (hj : j < 4) (hne : i ≠ j) : Cond.not (.eq (.static wdC (wdN.getD i "") wdD) (.static wdC (wdN.getD j "") wdD)) ∈ gvF ∨ Cond.not (.eq (.static wdC (wdN.getD j "") wdD) (.static wdC (wdN.getD i "") wdD)) ∈ gvF := by
  have h := all_lt (N := 4) (P := fun j => decide (i = j ∨ (Cond.not (.eq (.static wdC (wdN.getD i "") wdD) (.static wdC (wdN.getD j "") wdD)) ∈ gvF ∨ Cond.not (.eq (.static wdC (wdN.getD j "") wdD) (.static wdC (wdN.getD i "") wdD)) ∈ gvF))) (all_lt (N := 4) (P := fun i => (List.range 4).all fun j => decide (i = j ∨ (Cond.not (.eq (.static wdC (wdN.getD i "") wdD) (.static wdC (wdN.getD j "") wdD)) ∈ gvF ∨ Cond.not (.eq (.static wdC (wdN.getD j "") wdD) (.static wdC (wdN.getD i "") wdD)) ∈ gvF))) (by decide +kernel) hi) hj
  exact (of_decide_eq_true h).resolve_left hne
abbrev wsT (i : Nat) : Term := .string wdC (wdSt.getD i 0)
theorem ls_s1 {i : Nat} (hi : i < 4) : Cond.exactly (wsT i) "java/lang/String" ∈ gvF := of_decide_eq_true (all_lt (N := 4) (P := fun i => decide (Cond.exactly (wsT i) "java/lang/String" ∈ gvF)) (by decide +kernel) hi)
theorem ls_s2 {i : Nat} (hi : i < 4) : Cond.eq (.field (wsT i) "java/lang/String" "coder" "B") (.int 0) ∈ gvF := of_decide_eq_true (all_lt (N := 4) (P := fun i => decide (Cond.eq (.field (wsT i) "java/lang/String" "coder" "B") (.int 0) ∈ gvF)) (by decide +kernel) hi)
theorem ls_s3 {i : Nat} (hi : i < 4) : Cond.arrayOf (.field (wsT i) "java/lang/String" "value" "[B") .byte ∈ gvF := of_decide_eq_true (all_lt (N := 4) (P := fun i => decide (Cond.arrayOf (.field (wsT i) "java/lang/String" "value" "[B") .byte ∈ gvF)) (by decide +kernel) hi)
theorem ls_s4 {i : Nat} (hi : i < 4) : Cond.eq (.length (.field (wsT i) "java/lang/String" "value" "[B")) (.int (Int32.ofNat (wdLen.getD i 0))) ∈ gvF := of_decide_eq_true (all_lt (N := 4) (P := fun i => decide (Cond.eq (.length (.field (wsT i) "java/lang/String" "value" "[B")) (.int (Int32.ofNat (wdLen.getD i 0))) ∈ gvF)) (by decide +kernel) hi)
theorem ls_s5 {i : Nat} (hi : i < 4) {j : Nat} (hj : j < wdLen.getD i 0) : Cond.eq (.elem (.field (wsT i) "java/lang/String" "value" "[B") (.int (Int32.ofNat j))) (.int ((wdByt.getD i []).getD j 0)) ∈ gvF := of_decide_eq_true (all_lt (N := wdLen.getD i 0) (P := fun j => decide (Cond.eq (.elem (.field (wsT i) "java/lang/String" "value" "[B") (.int (Int32.ofNat j))) (.int ((wdByt.getD i []).getD j 0)) ∈ gvF)) (all_lt (N := 4) (P := fun i => (List.range (wdLen.getD i 0)).all fun j => decide (Cond.eq (.elem (.field (wsT i) "java/lang/String" "value" "[B") (.int (Int32.ofNat j))) (.int ((wdByt.getD i []).getD j 0)) ∈ gvF)) (by decide +kernel) hi) hj)
theorem ls_s6 {i j : Nat} (hi : i < 4) (hj : j < 4) (hne : i ≠ j) : Cond.not (Cond.eq (wsT i) (wsT j)) ∈ gvF ∨ Cond.not (Cond.eq (wsT j) (wsT i)) ∈ gvF := by
  have h := all_lt (N := 4) (P := fun j => decide (i = j ∨ (Cond.not (Cond.eq (wsT i) (wsT j)) ∈ gvF ∨ Cond.not (Cond.eq (wsT j) (wsT i)) ∈ gvF))) (all_lt (N := 4) (P := fun i => (List.range 4).all fun j => decide (i = j ∨ (Cond.not (Cond.eq (wsT i) (wsT j)) ∈ gvF ∨ Cond.not (Cond.eq (wsT j) (wsT i)) ∈ gvF))) (by decide +kernel) hi) hj
  exact (of_decide_eq_true h).resolve_left hne
theorem ls_s7 {i : Nat} (hi : i < 4) : wdLen.getD i 0 < 2 ^ 31 := of_decide_eq_true (all_lt (N := 4) (P := fun i => decide (wdLen.getD i 0 < 2 ^ 31)) (by decide +kernel) hi)
theorem ls_s8 {i : Nat} (hi : i < 4) : Cond.eq (.field (.static wdC (wdN.getD i "") wdD) wdC "spelling" "Ljava/lang/String;") (wsT i) ∈ gvF := of_decide_eq_true (all_lt (N := 4) (P := fun i => decide (Cond.eq (.field (.static wdC (wdN.getD i "") wdD) wdC "spelling" "Ljava/lang/String;") (wsT i) ∈ gvF)) (by decide +kernel) hi)
theorem ls_x1 : ∀ q ∈ exT, Cond.stringRef "StruckCounts" q.1 q.2 ∈ lw_tbl := fun q hq => of_decide_eq_true (ls_all (L := exT) (P := fun q => decide (Cond.stringRef "StruckCounts" q.1 q.2 ∈ lw_tbl)) (by decide +kernel) q hq)
theorem ls_x2 : ∀ q ∈ exT, Cond.exactly (.string "StruckCounts" q.1) "java/lang/String" ∈ gvF := fun q hq => of_decide_eq_true (ls_all (L := exT) (P := fun q => decide (Cond.exactly (.string "StruckCounts" q.1) "java/lang/String" ∈ gvF)) (by decide +kernel) q hq)
theorem ls_n1 : ∀ q ∈ nestF, Cond.fieldLinkNest q.1 q.2.1 q.2.2.1 q.2.2.2.1 q.2.2.2.2.1 q.2.2.2.2.2 ∈ lw_tbl := fun q hq => of_decide_eq_true (ls_all (L := nestF) (P := fun q => decide (Cond.fieldLinkNest q.1 q.2.1 q.2.2.1 q.2.2.2.1 q.2.2.2.2.1 q.2.2.2.2.2 ∈ lw_tbl)) (by decide +kernel) q hq)
theorem ls_n2 : ∀ q ∈ nestM, Cond.methodLinkNest q.1 q.2.1 q.2.2.1 q.2.2.2 ∈ lw_tbl := fun q hq => of_decide_eq_true (ls_all (L := nestM) (P := fun q => decide (Cond.methodLinkNest q.1 q.2.1 q.2.2.1 q.2.2.2 ∈ lw_tbl)) (by decide +kernel) q hq)
theorem ls_c1 : ∀ q ∈ exC, Cond.castable q q ∈ lw_tbl := fun q hq => of_decide_eq_true (ls_all (L := exC) (P := fun q => decide (Cond.castable q q ∈ lw_tbl)) (by decide +kernel) q hq)
theorem ls_c2 : ∀ q ∈ exN, Cond.not (.castable q.1 q.2) ∈ gvF := fun q hq => of_decide_eq_true (ls_all (L := exN) (P := fun q => decide (Cond.not (.castable q.1 q.2) ∈ gvF)) (by decide +kernel) q hq)
theorem ls_c3 : ∀ q ∈ exD, Cond.declares q ∈ lw_tbl := fun q hq => of_decide_eq_true (ls_all (L := exD) (P := fun q => decide (Cond.declares q ∈ lw_tbl)) (by decide +kernel) q hq)
theorem st_start {s : State} {b : Nat} (hv : (Jvm.Cond.and given_1 narrow_1).before #[Value.ref b] s = true) (hts : ∀ w ∈ lw_tbl, w.before #[Value.ref b] s = true) : ∃ T : (Nat × Nat × Nat) × (Nat → Nat) × (Nat → Nat) × (Nat → Nat), ∀ (D : va_G) (I : ClassId × ClassId × ClassId × ClassId), St (D, I, T) (fun q => s.heap.size ≤ q) s s.heap := by
  have hs : ∀ c ∈ gvF, c.before #[Value.ref b] s = true := flat_of_before _ hv
  have hA : ∀ a : Nat, a < s.heap.size → ¬ (fun q : Nat => s.heap.size ≤ q) a := fun a h => Nat.not_le.mpr h
  obtain ⟨tp, e1, hTp⟩ := va_Tof (tm := .static "StruckCounts" "SMALL_PRIMES" "[I") (ty := .int) (N := 65) (f := fun j => .int (iI (spA j))) (by decide) (hs _ (by decide +kernel)) (va_eqt (hs _ (by decide +kernel))) (fun j hj => va_eqt (hs _ (ls_sp hj))) hA
  obtain ⟨tg, e2, hTg⟩ := va_Tof (tm := .static "StruckCounts" "GROUP_POWERS" "[J") (ty := .long) (N := 4) (f := fun j => .long (jL (gpA j))) (by decide) (hs _ (by decide +kernel)) (va_eqt (hs _ (by decide +kernel))) (fun j hj => va_eqtl (hs _ (ls_gp hj))) hA
  obtain ⟨ad, hEn, hev⟩ := va_Enof2 (E := wdC) (d := wdD) (nm := wdN) (F := wdF) (fun i hi => hts _ (ls_w1 hi)) (hts (.initialized wdC) (by decide +kernel)) (fun i hi => hs _ (ls_w2 hi)) (fun q hq i hi => hs _ (ls_w3 q hq i hi)) (fun i j hi hj hne => (ls_w4 hi hj hne).imp (fun z => hs _ z) (fun z => hs _ z)) hA
  obtain ⟨tw, e3, hTw⟩ := va_Tof (tm := .static "StruckCounts" "WORDS" "[LStruckCounts$Word;") (ty := .object wdC) (N := 4) (f := fun j => .ref (ad j)) (by decide) (hs _ (by decide +kernel)) (va_eqt (hs _ (by decide +kernel))) (fun j hj => va_eqv (hs _ (ls_wd hj)) (hev j hj)) hA
  obtain ⟨sk, sv, hS, hsv⟩ := vk_Sof (N := 4) (tm := wsT) (len := wdLen) (byt := wdByt) (fun i hi => ls_s7 hi) (fun i hi => hs _ (ls_s1 hi)) (fun i hi => hs _ (ls_s2 hi)) (fun i hi => hs _ (ls_s3 hi)) (fun i hi => hs _ (ls_s4 hi)) (fun i hi j hj => hs _ (ls_s5 hi hj)) (fun i j hi hj hne => (ls_s6 hi hj hne).imp (fun z => hs _ z) (fun z => hs _ z)) hA
  have hEf := va_Efof (o := wdC) (n := "spelling") (d := "Ljava/lang/String;") (tm := wsT) (v := fun j => .ref (sk j)) hev (fun i hi => hs _ (ls_s8 hi)) hsv hA
  refine ⟨((tp, tg, tw), ad, sk, sv), fun D I => ⟨⟨?_, hTp⟩, ⟨?_, hTg⟩, ⟨?_, hTw⟩, ⟨hEn, hEf⟩, hS, ?_, ⟨?_, ?_⟩, fun q hq => ?_, fun q hq => ?_, fun q hq => ?_, fun q hq => ?_, fun q hq => ?_, fun q hq => ?_, ?_⟩⟩
  · exact va_Zref (hts _ (by decide +kernel)) (hts (.initialized "StruckCounts") (by decide +kernel)) e1 hA
  · exact va_Zref (hts _ (by decide +kernel)) (hts (.initialized "StruckCounts") (by decide +kernel)) e2 hA
  · exact va_Zref (hts _ (by decide +kernel)) (hts (.initialized "StruckCounts") (by decide +kernel)) e3 hA
  · exact va_Zof (hts _ (by decide +kernel)) (hts (.initialized "java/lang/String") (by decide +kernel)) (va_eqi (hs _ (by decide +kernel))) hA
  · exact vx_Zqof (hts _ (by decide +kernel)) (hts _ (by decide +kernel)) (hs _ (by decide +kernel)) hA
  · exact vx_Zqof (hts _ (by decide +kernel)) (hts _ (by decide +kernel)) (hs _ (by decide +kernel)) hA
  · obtain ⟨a, c, cell, k, h1, -⟩ := Cond.exactly_spec (hs _ (ls_x2 q hq))
    exact ⟨a, vk_R.of (A := #[Value.ref b]) (hts _ (ls_x1 q hq)) h1⟩
  · exact va_Nw.of rfl (hts _ (ls_n1 q hq))
  · exact va_Nw.of rfl (hts _ (ls_n2 q hq))
  · exact va_Nw.of rfl (hts _ (ls_c1 q hq))
  · exact va_Nc.of (hs _ (ls_c2 q hq))
  · exact va_Nw.of rfl (hts _ (ls_c3 q hq))
  · exact va_Zqof (hts _ (by decide +kernel)) (hts _ (by decide +kernel)) (hs _ (by decide +kernel)) hA

