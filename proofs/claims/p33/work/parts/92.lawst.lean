/-! what holds at the law's entry: classes, arrays, statics -/
abbrev gvF : List Cond := flatC (Jvm.Cond.and given_1 narrow_1)
theorem ls_arr {s : State} {args : Array Value} {ty : FieldType} (h : (Cond.arrayClass ty).before args s = true) (h0 : ∀ C, ty ≠ .object C) : ∃ cA : ClassId, ArrOfT s cA ty ∧ va_RA s cA ty := by
  obtain ⟨c, k, comp, h1, h2, h3⟩ := Cond.arrayClass_spec h
  refine ⟨c, fun n z => ⟨fun k h => (by cases h), k, h2, comp, h3⟩, ?_⟩
  cases ty with
  | object C => exact absurd rfl (h0 C)
  | _ => exact h1
theorem ls_cls {s : State} {args : Array Value} (hts : ∀ w ∈ lw_tbl, w.before args s = true) : ∃ D : va_G, ∀ (k : Nat) (q : vw_C), vwCl[k]? = some q → u_Kn s q.1 q.2.1 q.2.2 (D.1 k) (D.2 k) := by
  obtain ⟨c0, i0, h0⟩ := u_known (C := RX0) (T := TX0) (N := 5) (n := 5) hts inX0 (hts (.instantiable RX0 5) (by decide +kernel))
  obtain ⟨c1, i1, h1⟩ := u_known (C := RX1) (T := TX1) (N := 1) (n := 1) hts inX1 (hts (.instantiable RX1 1) (by decide +kernel))
  obtain ⟨c2, i2, h2⟩ := u_known (C := RX2) (T := TX2) (N := 5) (n := 5) hts inX2 (hts (.instantiable RX2 5) (by decide +kernel))
  obtain ⟨c3, i3, h3⟩ := u_known (C := RX3) (T := TX3) (N := 5) (n := 5) hts inX3 (hts (.instantiable RX3 5) (by decide +kernel))
  obtain ⟨c4, i4, h4⟩ := u_known (C := RX4) (T := TX4) (N := 7) (n := 7) hts inX4 (hts (.instantiable RX4 7) (by decide +kernel))
  obtain ⟨c5, i5, h5⟩ := u_known (C := RX6) (T := TX6) (N := 5) (n := 5) hts inX6 (hts (.instantiable RX6 5) (by decide +kernel))
  refine ⟨(fun k => if k = 0 then c0 else if k = 1 then c1 else if k = 2 then c2 else if k = 3 then c3 else if k = 4 then c4 else c5, fun k => if k = 0 then i0 else if k = 1 then i1 else if k = 2 then i2 else if k = 3 then i3 else if k = 4 then i4 else i5), ?_⟩
  intro k q hq
  match k, hq with
  | 0, hq => cases hq; exact h0
  | 1, hq => cases hq; exact h1
  | 2, hq => cases hq; exact h2
  | 3, hq => cases hq; exact h3
  | 4, hq => cases hq; exact h4
  | 5, hq => cases hq; exact h5
  | k + 6, hq => simp [vwCl] at hq
theorem ls_all {α : Type} {L : List α} {P : α → Bool} (h : L.all P = true) : ∀ x ∈ L, P x = true := List.all_eq_true.mp h
theorem ls_sp {j : Nat} (hj : j < 65) : Cond.eq (.elem (.static "StruckCounts" "SMALL_PRIMES" "[I") (.int (Int32.ofNat j))) (.int (iI (spA j))) ∈ gvF := of_decide_eq_true (all_lt (N := 65) (P := fun j => decide (Cond.eq (.elem (.static "StruckCounts" "SMALL_PRIMES" "[I") (.int (Int32.ofNat j))) (.int (iI (spA j))) ∈ gvF)) (by decide +kernel) hj)
theorem ls_x1 : ∀ q ∈ exT, Cond.stringRef "StruckCounts" q.1 q.2 ∈ lw_tbl := fun q hq => of_decide_eq_true (ls_all (L := exT) (P := fun q => decide (Cond.stringRef "StruckCounts" q.1 q.2 ∈ lw_tbl)) (by decide +kernel) q hq)
theorem ls_x2 : ∀ q ∈ exT, Cond.exactly (.string "StruckCounts" q.1) "java/lang/String" ∈ gvF := fun q hq => of_decide_eq_true (ls_all (L := exT) (P := fun q => decide (Cond.exactly (.string "StruckCounts" q.1) "java/lang/String" ∈ gvF)) (by decide +kernel) q hq)
theorem ls_n1 : ∀ q ∈ nestF, Cond.fieldLinkNest q.1 q.2.1 q.2.2.1 q.2.2.2.1 q.2.2.2.2.1 q.2.2.2.2.2 ∈ lw_tbl := fun q hq => of_decide_eq_true (ls_all (L := nestF) (P := fun q => decide (Cond.fieldLinkNest q.1 q.2.1 q.2.2.1 q.2.2.2.1 q.2.2.2.2.1 q.2.2.2.2.2 ∈ lw_tbl)) (by decide +kernel) q hq)
theorem ls_n2 : ∀ q ∈ nestM, Cond.methodLinkNest q.1 q.2.1 q.2.2.1 q.2.2.2 ∈ lw_tbl := fun q hq => of_decide_eq_true (ls_all (L := nestM) (P := fun q => decide (Cond.methodLinkNest q.1 q.2.1 q.2.2.1 q.2.2.2 ∈ lw_tbl)) (by decide +kernel) q hq)
theorem ls_c1 : ∀ q ∈ exC, Cond.castable q q ∈ lw_tbl := fun q hq => of_decide_eq_true (ls_all (L := exC) (P := fun q => decide (Cond.castable q q ∈ lw_tbl)) (by decide +kernel) q hq)
theorem ls_c2 : ∀ q ∈ exN, Cond.not (.castable q.1 q.2) ∈ gvF := fun q hq => of_decide_eq_true (ls_all (L := exN) (P := fun q => decide (Cond.not (.castable q.1 q.2) ∈ gvF)) (by decide +kernel) q hq)
theorem ls_c3 : ∀ q ∈ exD, Cond.declares q ∈ lw_tbl := fun q hq => of_decide_eq_true (ls_all (L := exD) (P := fun q => decide (Cond.declares q ∈ lw_tbl)) (by decide +kernel) q hq)
/-- the script, as a row of ints that is not the law's own -/
def scN (xs : Nat → Int32) (j : Nat) : Nat := ((xs j).toInt % 4294967296).toNat
theorem scN_iI (xs : Nat → Int32) (j : Nat) : iI ((scN xs j : Nat) : Int) = xs j := by
  have h1 := Int.emod_nonneg (xs j).toInt (by decide : (4294967296 : Int) ≠ 0)
  have h2 : ((scN xs j : Nat) : Int) = (xs j).toInt % 4294967296 := by unfold scN; omega
  have h3 := Int.emod_add_mul_ediv (xs j).toInt 4294967296
  have h4 : (xs j).toInt % 4294967296 = (xs j).toInt + 4294967296 * (-((xs j).toInt / 4294967296)) := by omega
  rw [h2]
  unfold iI
  apply Int32.toInt_inj.mp
  rw [Int32.toInt_ofInt]
  have h5 := Int32.le_toInt (xs j)
  have h6 := Int32.toInt_lt (xs j)
  unfold Int.bmod
  simp only [Int32.size]
  omega
theorem st_start {s : State} {b L : Nat} {xs : Nat → Int32} (hL : L ≤ 260) (hX : va_X b L xs s s.heap) (hbl : b < s.heap.size) (hv : (Jvm.Cond.and given_1 narrow_1).before #[Value.ref b] s = true) (hts : ∀ w ∈ lw_tbl, w.before #[Value.ref b] s = true) : ∃ tp : Nat, ∀ (D : va_G) (I : ClassId × ClassId × ClassId × ClassId), St (D, I, ((tp, b, 0), fun _ => L, scN xs, fun _ => 0)) (fun q => s.heap.size ≤ q) s s.heap := by
  have hs : ∀ c ∈ gvF, c.before #[Value.ref b] s = true := flat_of_before _ hv
  have hA : ∀ a : Nat, a < s.heap.size → ¬ (fun q : Nat => s.heap.size ≤ q) a := fun a h => Nat.not_le.mpr h
  obtain ⟨tp, e1, hTp⟩ := va_Tof (tm := .static "StruckCounts" "SMALL_PRIMES" "[I") (ty := .int) (N := 65) (f := fun j => .int (iI (spA j))) (by decide) (hs _ (by decide +kernel)) (va_eqt (hs _ (by decide +kernel))) (fun j hj => va_eqt (hs _ (ls_sp hj))) hA
  refine ⟨tp, fun D I => ⟨⟨?_, hTp⟩, ⟨hL, ?_⟩, ⟨trivial, trivial⟩, ⟨trivial, trivial⟩, trivial, trivial, ⟨?_, ?_⟩, fun q hq => ?_, fun q hq => ?_, fun q hq => ?_, fun q hq => ?_, fun q hq => ?_, fun q hq => ?_, trivial⟩⟩
  · exact va_Zref (hts _ (by decide +kernel)) (hts (.initialized "StruckCounts") (by decide +kernel)) e1 hA
  · obtain ⟨scr, h1, h2, h3, h4, h5⟩ := hX
    refine ⟨scr, h1, h2, h3, Nat.le_of_eq h4.symm, by rw [h4], fun j hj => ?_, Nat.not_le.mpr hbl⟩
    show scr.slots[j]? = some (.int (iI ((scN xs j : Nat) : Int)))
    rw [scN_iI]; exact h5 j hj
  · exact vx_Zqof (hts _ (by decide +kernel)) (hts _ (by decide +kernel)) (hs _ (by decide +kernel)) hA
  · exact vx_Zqof (hts _ (by decide +kernel)) (hts _ (by decide +kernel)) (hs _ (by decide +kernel)) hA
  · obtain ⟨a, c, cell, k, h1, -⟩ := Cond.exactly_spec (hs _ (ls_x2 q hq))
    exact ⟨a, vk_R.of (A := #[Value.ref b]) (hts _ (ls_x1 q hq)) h1⟩
  · exact va_Nw.of rfl (hts _ (ls_n1 q hq))
  · exact va_Nw.of rfl (hts _ (ls_n2 q hq))
  · exact va_Nw.of rfl (hts _ (ls_c1 q hq))
  · exact va_Nc.of (hs _ (ls_c2 q hq))
  · exact va_Nw.of rfl (hts _ (ls_c3 q hq))
