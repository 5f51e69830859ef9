theorem gpA_rng {j : Nat} (h : j < 4) : 1 ≤ gpA j ∧ gpA j ≤ 1000000000000000000 := of_decide_eq_true (all_lt (N := 4) (P := fun j => decide (1 ≤ gpA j ∧ gpA j ≤ 1000000000000000000)) (by decide +kernel) h)
def grp (x N i : Int) : Int := x / gpA (N - 1 - i).toNat % 1000000
def rsF (x N : Int) : Nat → Int → Nat → Nat → Nat → Int
  | 0, _, _, _, _ => -1
  | f + 1, i, n, k, m => if (cmd (grp x N i / 100000) (grp x N i % 100000) n k m).1 = true then rsF x N f (i + 1) (cmd (grp x N i / 100000) (grp x N i % 100000) n k m).2.1 (cmd (grp x N i / 100000) (grp x N i % 100000) n k m).2.2.1 (cmd (grp x N i / 100000) (grp x N i % 100000) n k m).2.2.2 else i
theorem rsF_go {x N i : Int} {n k m f : Nat} (h : (cmd (grp x N i / 100000) (grp x N i % 100000) n k m).1 = true) : rsF x N (f + 1) i n k m = rsF x N f (i + 1) (cmd (grp x N i / 100000) (grp x N i % 100000) n k m).2.1 (cmd (grp x N i / 100000) (grp x N i % 100000) n k m).2.2.1 (cmd (grp x N i / 100000) (grp x N i % 100000) n k m).2.2.2 := if_pos h
theorem rsF_no {x N i : Int} {n k m f : Nat} (h : (cmd (grp x N i / 100000) (grp x N i % 100000) n k m).1 = false) : rsF x N (f + 1) i n k m = i := if_neg (by rw [h]; decide)
def turn (r : Int) (n k m : Nat) : Nat × Nat × Nat :=
  if r % 8 = 0 then ((1 + r / 8 % 3000).toNat, 0, 0) else if r % 8 = 1 then (n, 0, 0) else if nxI n k = -1 then (n, k, m) else if r % 8 < 4 then (n, k + 1, m) else (n, k + 1, m ||| 2 ^ k)
theorem turn_0 {r : Int} {n k m : Nat} (h : r % 8 = 0) : turn r n k m = ((1 + r / 8 % 3000).toNat, 0, 0) := if_pos h
theorem turn_1 {r : Int} {n k m : Nat} (h : r % 8 = 1) : turn r n k m = (n, 0, 0) := by unfold turn; rw [if_neg (by omega), if_pos h]
theorem turn_n {r : Int} {n k m : Nat} (h : 2 ≤ r % 8) (hn : nxI n k = -1) : turn r n k m = (n, k, m) := by unfold turn; rw [if_neg (by omega), if_neg (by omega), if_pos hn]
theorem turn_2 {r : Int} {n k m : Nat} (h : 2 ≤ r % 8 ∧ r % 8 < 4) (hn : ¬ nxI n k = -1) : turn r n k m = (n, k + 1, m) := by unfold turn; rw [if_neg (by omega), if_neg (by omega), if_neg hn, if_pos h.2]
theorem turn_4 {r : Int} {n k m : Nat} (h : 4 ≤ r % 8) (hn : ¬ nxI n k = -1) : turn r n k m = (n, k + 1, m ||| 2 ^ k) := by unfold turn; rw [if_neg (by omega), if_neg (by omega), if_neg hn, if_neg (by omega)]
def TuOK (q : Nat × Nat × Nat) (tl bd cm sk tb ts : Int) (fv fr fs : Nat → Int) : Prop := BdS q.1 q.2.1 q.2.2 bd cm sk ∧ BdT q.1 q.2.1 q.2.2 tl tb ts fv fr fs
theorem TuOK_of {q : Nat × Nat × Nat} {n k m : Nat} {tl bd cm sk tb ts : Int} {fv fr fs : Nat → Int} (h : q = (n, k, m)) (hS : BdS n k m bd cm sk) (hT : BdT n k m tl tb ts fv fr fs) : TuOK q tl bd cm sk tb ts fv fr fs := by rw [h]; exact ⟨hS, hT⟩
theorem TuOK_let {q : Nat × Nat × Nat} {n k m : Nat} {tl bd cm sk tb ts s cm2 sk2 r : Int} {fv fr fs : Nat → Int} (hS : BdS n k m bd cm sk) (hT : BdT n k m tl tb ts fv fr fs)
    (hu : (nxI n k = -1 ∧ r = 0 ∧ cm2 = cm ∧ sk2 = sk) ∨ (¬ nxI n k = -1 ∧ r = 1 ∧ cm2 = cm + 1 ∧ sk2 = if s = 0 then (m : Int) else ((m ||| 2 ^ k : Nat) : Int))) (h1 : nxI n k = -1 → q = (n, k, m)) (h2 : ¬ nxI n k = -1 → q = (n, k + 1, if s = 0 then m else m ||| 2 ^ k)) : TuOK q tl bd cm2 sk2 tb ts fv fr fs := by
  rcases hu with ⟨a, b, c, d⟩ | ⟨a, b, c, d⟩
  · rw [c, d]; exact TuOK_of (h1 a) hS hT
  · refine TuOK_of (h2 a) (BdS_next hS (nxI_some a).1 c d) (BdT_next hT fun j hj => ?_)
    split
    · rfl
    · exact or_lo hj

theorem in_X6_runScript_X6 : ∀ w ∈ wsX60, w ∈ wsX6_runScript := by decide +kernel
set_option maxHeartbeats 4000000 in
set_option maxRecDepth 100000 in
theorem c_X6_runScript (l : Launch) (G : KG) (sc tx so pr b0 b t va re su : Nat) (tl tb ts bd cm sk : Int) (fv fr fs : Nat → Int) (t0 : Nat) (tl0 bd0 cm0 sk0 : Int) (n k m : Nat) (N x : Int) (hS0 : BdS n k m bd0 cm0 sk0) (hN : -2147483648 ≤ N ∧ N < 2147483648) (hx : -9223372036854775808 ≤ x ∧ x < 9223372036854775808) (hfl : l.stackTraces = false) : Cxt l G yX6_runScript wsX6_runScript (rmD 7 2 12) [.ref sc, .int (iI N), .long (jL x)] [(sc, .inr (5, [.ref tx, .ref b0, .ref so, .ref pr, .ref b])), (b0, .inr (0, [.ref t0, .int (iI tl0), .int (iI bd0), .int (iI cm0), .long (jL sk0)])), (b, .inr (0, [.ref t, .int (iI tl), .int (iI bd), .int (iI cm), .long (jL sk)])), (t, .inr (3, [.ref va, .ref re, .ref su, .int (iI tb), .int (iI ts)])), (va, .inl (g_I G, 631, .inl (aI fv))), (re, .inl (g_I G, 2524, .inl (aI fr))), (su, .inl (g_J G, 631, .inr (.inl (aL fs))))] (fun u : Int × Int × Int × Int × Int × Int × Int × (Nat → Int) × (Nat → Int) × (Nat → Int) => ((1 ≤ N ∧ N ≤ 3) ∧ 0 ≤ x ∧ x < gpA N.toNat) ∧ u.1 = rsF x N N.toNat 0 n k m) (fun u : Int × Int × Int × Int × Int × Int × Int × (Nat → Int) × (Nat → Int) × (Nat → Int) => some (.int (iI u.1))) (fun u : Int × Int × Int × Int × Int × Int × Int × (Nat → Int) × (Nat → Int) × (Nat → Int) => [(sc, .inr (5, [.ref tx, .ref b0, .ref so, .ref pr, .ref b])), (b0, .inr (0, [.ref t0, .int (iI tl0), .int (iI bd0), .int (iI cm0), .long (jL sk0)])), (b, .inr (0, [.ref t, .int (iI u.2.1), .int (iI u.2.2.1), .int (iI u.2.2.2.1), .long (jL u.2.2.2.2.1)])), (t, .inr (3, [.ref va, .ref re, .ref su, .int (iI u.2.2.2.2.2.1), .int (iI u.2.2.2.2.2.2.1)])), (va, .inl (g_I G, 631, .inl (aI u.2.2.2.2.2.2.2.1))), (re, .inl (g_I G, 2524, .inl (aI u.2.2.2.2.2.2.2.2.1))), (su, .inl (g_J G, 631, .inr (.inl (aL u.2.2.2.2.2.2.2.2.2))))]) (fun v : Unit => ¬ ((1 ≤ N ∧ N ≤ 3) ∧ 0 ≤ x ∧ x < gpA N.toNat)) (fun v : Unit => "java/lang/IllegalArgumentException") (fun v : Unit => [(sc, .inr (5, [.ref tx, .ref b0, .ref so, .ref pr, .ref b])), (b0, .inr (0, [.ref t0, .int (iI tl0), .int (iI bd0), .int (iI cm0), .long (jL sk0)])), (b, .inr (0, [.ref t, .int (iI tl), .int (iI bd), .int (iI cm), .long (jL sk)])), (t, .inr (3, [.ref va, .ref re, .ref su, .int (iI tb), .int (iI ts)])), (va, .inl (g_I G, 631, .inl (aI fv))), (re, .inl (g_I G, 2524, .inl (aI fr))), (su, .inl (g_J G, 631, .inr (.inl (aL fs))))]) := by
  refine Cxt.of (cc := cX6_runScript) (maxL := 6) (ret := (some .int)) (by decide +kernel) rfl (Nat.le_of_ble_eq_true rfl) ?_
  intro X C hG hL hnm hR hQ htab
  subst hG
  subst hL
  have C : Cx X cX6_runScript RX6 wsX6_runScript (some .int) 6 (rmD 7 2 12) := C
  have hTh : Thr X (fun v : Unit => ¬ ((1 ≤ N ∧ N ≤ 3) ∧ 0 ≤ x ∧ x < gpA N.toNat)) (fun v : Unit => "java/lang/IllegalArgumentException") (fun v : Unit => [(sc, .inr (5, [.ref tx, .ref b0, .ref so, .ref pr, .ref b])), (b0, .inr (0, [.ref t0, .int (iI tl0), .int (iI bd0), .int (iI cm0), .long (jL sk0)])), (b, .inr (0, [.ref t, .int (iI tl), .int (iI bd), .int (iI cm), .long (jL sk)])), (t, .inr (3, [.ref va, .ref re, .ref su, .int (iI tb), .int (iI ts)])), (va, .inl (g_I (x_G X), 631, .inl (aI fv))), (re, .inl (g_I (x_G X), 2524, .inl (aI fr))), (su, .inl (g_J (x_G X), 631, .inr (.inl (aL fs))))]) := ⟨_, by rw [C.R]; exact hQ⟩
  show K_ X 0 0 [(sc, .inr (5, [.ref tx, .ref b0, .ref so, .ref pr, .ref b])), (b0, .inr (0, [.ref t0, .int (iI tl0), .int (iI bd0), .int (iI cm0), .long (jL sk0)])), (b, .inr (0, [.ref t, .int (iI tl), .int (iI bd), .int (iI cm), .long (jL sk)])), (t, .inr (3, [.ref va, .ref re, .ref su, .int (iI tb), .int (iI ts)])), (va, .inl (g_I (x_G X), 631, .inl (aI fv))), (re, .inl (g_I (x_G X), 2524, .inl (aI fr))), (su, .inl (g_J (x_G X), 631, .inr (.inl (aL fs))))] 0 [(0, .ref sc), (1, .int (iI N)), (2, .long (jL x))] []
  refine k_iload_n C 1 rfl dX6_runScript_0 rfl ?_
  refine k_iconst C dX6_runScript_1 ?_
  refine k_iconst C dX6_runScript_2 ?_
  refine k_callS C (y := yX6_outside) [.int (iI N), .int (iI 1), .int (iI 3)] 3 rfl (c_X6_outside (x_l X) (x_G X) N 1 3 (by omega) (by omega) (by omega)) gX6_runScript_X6_outside rfl ⟨by decide +kernel, by decide +kernel, by decide +kernel⟩ ⟨by decide, by decide⟩ [] (by decide) (wc := []) rfl [] rfl (Nat.le_of_ble_eq_true rfl) ⟨Nat.le_of_ble_eq_true rfl, Nat.le_of_ble_eq_true rfl⟩ dX6_runScript_3 (fun _ => [(sc, .inr (5, [.ref tx, .ref b0, .ref so, .ref pr, .ref b])), (b0, .inr (0, [.ref t0, .int (iI tl0), .int (iI bd0), .int (iI cm0), .long (jL sk0)])), (b, .inr (0, [.ref t, .int (iI tl), .int (iI bd), .int (iI cm), .long (jL sk)])), (t, .inr (3, [.ref va, .ref re, .ref su, .int (iI tb), .int (iI ts)])), (va, .inl (g_I (x_G X), 631, .inl (aI fv))), (re, .inl (g_I (x_G X), 2524, .inl (aI fr))), (su, .inl (g_J (x_G X), 631, .inr (.inl (aL fs))))]) (Or.inl (fun _ => ⟨rfl, rfl⟩)) (fun u3 => [.int (iI u3)]) (fun _ => rfl) 0 0 ⟨rfl, rfl⟩ (fun u3 hu3 => ?_)
  refine k_if_eq C 19 (⟨by omega, by omega⟩) dX6_runScript_6 (by decide) (fun c6 => ?_) (fun c6 => ?_)
  · skip
    have hu3 := bo_f hu3 c6
    refine k_lload_n C 2 rfl dX6_runScript_19 rfl ?_
    refine k_lconst C dX6_runScript_20 0 (by decide) ?_
    refine k_lcmp C (⟨by omega, by omega⟩) (⟨by omega, by omega⟩) dX6_runScript_21 (fun v21 e21 b21 => ?_)
    clear e21
    refine k_if_lt C 35 (⟨by omega, by omega⟩) dX6_runScript_22 (by decide) (fun c22 => ?_) (fun c22 => ?_)
    · skip
      exact k_throw C hTh htab hfl rfl 14 rfl 0 rfl 1 2 rfl rfl (by decide +kernel) (by decide +kernel) (by decide +kernel) (by decide +kernel) (by decide +kernel) dX6_runScript_35 dX6_runScript_38 dX6_runScript_39 dX6_runScript_41 dX6_runScript_44 (Nat.le_of_ble_eq_true rfl) (Nat.le_of_ble_eq_true rfl) (Nat.le_of_ble_eq_true rfl) (Nat.le_of_ble_eq_true rfl) () rfl (by first | trivial | omega) rfl
    · skip
      refine k_lload_n C 2 rfl dX6_runScript_25 rfl ?_
      refine k_gets C (ref := "StruckCounts") (nm := "GROUP_POWERS") C.S.2.1.1 3 rfl rfl dX6_runScript_26 ?_
      refine k_iload_n C 1 rfl dX6_runScript_29 rfl ?_
      refine k_tl C C.S.2.1.2 (⟨by omega, by omega⟩) (by decide) dX6_runScript_30 ?_
      refine k_nmL (fun v30 e30 => ?_)
      have hg := gpA_rng (j := N.toNat) (by omega)
      refine k_lcmp C (⟨by omega, by omega⟩) (⟨by omega, by omega⟩) dX6_runScript_31 (fun v31 e31 b31 => ?_)
      clear e31
      refine k_if_lt C 45 (⟨by omega, by omega⟩) dX6_runScript_32 (by decide) (fun c32 => ?_) (fun c32 => ?_)
      · skip
        refine k_aload_n C 0 rfl dX6_runScript_45 rfl ?_
        refine k_get C (Cn := RX6) (T := TX6) (N := 5) (ci := 5) (ref := "StruckCounts") in_X6_runScript_X6 0 rfl rfl 4 (by decide) 4 rfl rfl (v := .ref b) rfl dX6_runScript_46 ?_
        refine k_aload_n C 0 rfl dX6_runScript_49 rfl ?_
        refine k_get C (Cn := RX6) (T := TX6) (N := 5) (ci := 5) (ref := "StruckCounts") in_X6_runScript_X6 0 rfl rfl 1 (by decide) 5 rfl rfl (v := .ref b0) rfl dX6_runScript_50 ?_
        refine k_callV C (y := yX0_copyOf) [.ref b0] 1 rfl (c_X0_copyOf (x_l X) (x_G X) b t b0 t0 tl bd cm sk tl0 bd0 cm0 sk0 ) gX6_runScript_X0_copyOf rfl ⟨rfl, by decide +kernel, by decide +kernel, by decide +kernel⟩ ⟨by decide, by decide⟩ 2 (fs := [.ref t, .int (iI tl), .int (iI bd), .int (iI cm), .long (jL sk)]) rfl rfl rfl [2, 1] (by decide) (wc := [(b, .inr (0, [.ref t, .int (iI tl), .int (iI bd), .int (iI cm), .long (jL sk)])), (b0, .inr (0, [.ref t0, .int (iI tl0), .int (iI bd0), .int (iI cm0), .long (jL sk0)]))]) rfl [] rfl (Nat.le_of_ble_eq_true rfl) ⟨Nat.le_of_ble_eq_true rfl, Nat.le_of_ble_eq_true rfl⟩ dX6_runScript_53 (fun u53 => [(sc, .inr (5, [.ref tx, .ref b0, .ref so, .ref pr, .ref b])), (b0, .inr (0, [.ref t0, .int (iI tl0), .int (iI bd0), .int (iI cm0), .long (jL sk0)])), (b, .inr (0, [.ref t, .int (iI (-1)), .int (iI bd0), .int (iI cm0), .long (jL sk0)])), (t, .inr (3, [.ref va, .ref re, .ref su, .int (iI tb), .int (iI ts)])), (va, .inl (g_I (x_G X), 631, .inl (aI fv))), (re, .inl (g_I (x_G X), 2524, .inl (aI fr))), (su, .inl (g_J (x_G X), 631, .inr (.inl (aL fs))))]) (Or.inr ⟨[0, 3, 4, 5, 6], [0, 6, 5, 1, 2, 3, 4], [(sc, .inr (5, [.ref tx, .ref b0, .ref so, .ref pr, .ref b])), (t, .inr (3, [.ref va, .ref re, .ref su, .int (iI tb), .int (iI ts)])), (va, .inl (g_I (x_G X), 631, .inl (aI fv))), (re, .inl (g_I (x_G X), 2524, .inl (aI fr))), (su, .inl (g_J (x_G X), 631, .inr (.inl (aL fs))))], rfl, by decide, by decide, by decide, fun _ => rfl⟩) (fun u53 => []) (fun _ => rfl) 0 0 ⟨rfl, rfl⟩ (fun u53 hu53 => ?_)
        refine k_iconst C dX6_runScript_56 ?_
        refine k_istore C (lo' := [(4, .int (iI 0)), (0, .ref sc), (1, .int (iI N)), (2, .long (jL x))]) dX6_runScript_57 (by decide) rfl ?_
        have L59 : ∀ (nf : Nat) (nq : Nat) (kq : Nat) (mq : Nat) (i : Int) (tl1 : Int) (bd1 : Int) (cm1 : Int) (sk1 : Int) (tb1 : Int) (ts1 : Int) (f1 : Nat → Int) (f2 : Nat → Int) (f3 : Nat → Int), (0 ≤ i ∧ i ≤ N ∧ BdS nq kq mq bd1 cm1 sk1 ∧ BdT nq kq mq tl1 tb1 ts1 f1 f2 f3 ∧ rsF x N (N - i).toNat i nq kq mq = rsF x N N.toNat 0 n k m) → (N - i).toNat < nf → K_ X 0 0 [(sc, .inr (5, [.ref tx, .ref b0, .ref so, .ref pr, .ref b])), (b0, .inr (0, [.ref t0, .int (iI tl0), .int (iI bd0), .int (iI cm0), .long (jL sk0)])), (b, .inr (0, [.ref t, .int (iI tl1), .int (iI bd1), .int (iI cm1), .long (jL sk1)])), (t, .inr (3, [.ref va, .ref re, .ref su, .int (iI tb1), .int (iI ts1)])), (va, .inl (g_I (x_G X), 631, .inl (aI f1))), (re, .inl (g_I (x_G X), 2524, .inl (aI f2))), (su, .inl (g_J (x_G X), 631, .inr (.inl (aL f3))))] 59 [(4, .int (iI i)), (0, .ref sc), (1, .int (iI N)), (2, .long (jL x))] [] := by
          intro nf
          induction nf with
          | zero => intro nq kq mq i tl1 bd1 cm1 sk1 tb1 ts1 f1 f2 f3 hI hm; exact absurd hm (Nat.not_lt_zero _)
          | succ nf ih59 =>
            intro nq kq mq i tl1 bd1 cm1 sk1 tb1 ts1 f1 f2 f3 hI59 hm59
            obtain ⟨i1, i2, i3, i4, i5⟩ := hI59
            refine k_iload C 0 rfl dX6_runScript_59 ?_
            refine k_iload_n C 2 rfl dX6_runScript_61 rfl ?_
            refine k_icmp_ge C 110 (⟨by omega, by omega⟩) (⟨by omega, by omega⟩) dX6_runScript_62 (by decide) (fun c62 => ?_) (fun c62 => ?_)
            · skip
              have hE : rsF x N N.toNat 0 n k m = -1 := by rw [← i5, show (N - i).toNat = 0 by omega]; rfl
              refine k_iconst C dX6_runScript_110 ?_
              exact k_iret C hR (u := ((-1), tl1, bd1, cm1, sk1, tb1, ts1, f1, f2, f3)) rfl (by (try dsimp only) <;> exact (⟨by omega, hE.symm⟩)) rfl (Nat.le_of_ble_eq_true rfl) (Nat.le_of_ble_eq_true rfl) dX6_runScript_111
            · skip
              refine k_lload_n C 3 rfl dX6_runScript_65 rfl ?_
              refine k_gets C (ref := "StruckCounts") (nm := "GROUP_POWERS") C.S.2.1.1 3 rfl rfl dX6_runScript_66 ?_
              refine k_iload_n C 2 rfl dX6_runScript_69 rfl ?_
              refine k_iconst C dX6_runScript_70 ?_
              refine k_isub C dX6_runScript_71 ?_
              refine k_nmI (fun v71 e71 => ?_)
              refine k_iload C 0 rfl dX6_runScript_72 ?_
              refine k_isub C dX6_runScript_74 ?_
              refine k_nmI (fun v74 e74 => ?_)
              refine k_tl C C.S.2.1.2 (⟨by omega, by omega⟩) (by decide) dX6_runScript_75 ?_
              refine k_nmL (fun v75 e75 => ?_)
              have hg2 := gpA_rng (j := v74.toNat) (by omega)
              refine k_ldiv C ⟨by omega, by omega⟩ ⟨by omega, by omega⟩ dX6_runScript_76 ?_
              refine k_nmL (fun v76 e76 => ?_)
              have hq1 : 0 ≤ v76 := by rw [e76]; exact Int.ediv_nonneg (by omega) (by omega)
              have hq2 : v76 ≤ x := by rw [e76]; exact Int.ediv_le_self _ (by omega)
              refine k_ldc2 C 1000000 6 rfl (by decide) dX6_runScript_77 ?_
              refine k_lrem C ⟨by omega, by omega⟩ ⟨by omega, by omega⟩ dX6_runScript_80 ?_
              refine k_nmL (fun v80 e80 => ?_)
              have hgr : v80 = grp x N i := by unfold grp; rw [e80, e76, e75, show (N - 1 - i).toNat = v74.toNat by omega]
              refine k_l2i C dX6_runScript_81 ?_
              refine k_istore C (lo' := [(5, .int (iI v80)), (4, .int (iI i)), (0, .ref sc), (1, .int (iI N)), (2, .long (jL x))]) dX6_runScript_82 (by decide) rfl ?_
              refine k_aload_n C 2 rfl dX6_runScript_84 rfl ?_
              refine k_iload C 0 rfl dX6_runScript_85 ?_
              refine k_ldc C 100000 7 rfl (by decide) dX6_runScript_87 ?_
              refine k_idiv C ⟨by omega, by omega⟩ ⟨by omega, by omega⟩ dX6_runScript_89 ?_
              refine k_nmI (fun v89 e89 => ?_)
              refine k_iload C 0 rfl dX6_runScript_90 ?_
              refine k_ldc C 100000 7 rfl (by decide) dX6_runScript_92 ?_
              refine k_irem C ⟨by omega, by omega⟩ ⟨by omega, by omega⟩ dX6_runScript_94 ?_
              refine k_nmI (fun v94 e94 => ?_)
              refine k_callV C (y := yX6_obeyCommand) [.int (iI v89), .int (iI v94)] 2 rfl (c_X6_obeyCommand (x_l X) (x_G X) sc tx so pr b0 b t va re su tl1 tb1 ts1 bd1 cm1 sk1 f1 f2 f3 nq kq mq v89 v94 (i3) (i4) (by omega) (by omega)) gX6_runScript_X6_obeyCommand rfl ⟨rfl, by decide +kernel, by decide +kernel, by decide +kernel⟩ ⟨by decide, by decide⟩ 0 (fs := [.ref tx, .ref b0, .ref so, .ref pr, .ref b]) rfl rfl rfl [0, 2, 3, 4, 5, 6] (by decide) (wc := [(sc, .inr (5, [.ref tx, .ref b0, .ref so, .ref pr, .ref b])), (b, .inr (0, [.ref t, .int (iI tl1), .int (iI bd1), .int (iI cm1), .long (jL sk1)])), (t, .inr (3, [.ref va, .ref re, .ref su, .int (iI tb1), .int (iI ts1)])), (va, .inl (g_I (x_G X), 631, .inl (aI f1))), (re, .inl (g_I (x_G X), 2524, .inl (aI f2))), (su, .inl (g_J (x_G X), 631, .inr (.inl (aL f3))))]) rfl [] rfl (Nat.le_of_ble_eq_true rfl) ⟨Nat.le_of_ble_eq_true rfl, Nat.le_of_ble_eq_true rfl⟩ dX6_runScript_95 (fun u95 => [(sc, .inr (5, [.ref tx, .ref b0, .ref so, .ref pr, .ref b])), (b0, .inr (0, [.ref t0, .int (iI tl0), .int (iI bd0), .int (iI cm0), .long (jL sk0)])), (b, .inr (0, [.ref t, .int (iI u95.2.1), .int (iI u95.2.2.1), .int (iI u95.2.2.2.1), .long (jL u95.2.2.2.2.1)])), (t, .inr (3, [.ref va, .ref re, .ref su, .int (iI u95.2.2.2.2.2.1), .int (iI u95.2.2.2.2.2.2.1)])), (va, .inl (g_I (x_G X), 631, .inl (aI u95.2.2.2.2.2.2.2.1))), (re, .inl (g_I (x_G X), 2524, .inl (aI u95.2.2.2.2.2.2.2.2.1))), (su, .inl (g_J (x_G X), 631, .inr (.inl (aL u95.2.2.2.2.2.2.2.2.2))))]) (Or.inr ⟨[1], [1, 0, 2, 3, 4, 5, 6], [(b0, .inr (0, [.ref t0, .int (iI tl0), .int (iI bd0), .int (iI cm0), .long (jL sk0)]))], rfl, by decide, by decide, by decide, fun _ => rfl⟩) (fun u95 => [.int (iI u95.1)]) (fun _ => rfl) 0 0 ⟨rfl, rfl⟩ (fun u95 hu95 => ?_)
              rw [e89, e94, hgr] at hu95
              refine k_if_ne C 104 (by rcases hu95 with z | z <;> (have := z.1; omega)) dX6_runScript_98 (by decide) (fun c98 => ?_) (fun c98 => ?_)
              · skip
                obtain ⟨z1, z2, z3, z4⟩ := hu95.resolve_right (fun z => c98 z.1)
                obtain ⟨v104, e104⟩ : ∃ y : Int, y = i + 1 := ⟨_, rfl⟩
                refine k_iinc C (lo' := [(4, .int (iI v104)), (5, .int (iI v80)), (0, .ref sc), (1, .int (iI N)), (2, .long (jL x))]) 1 rfl dX6_runScript_104 (by decide) v104 e104 rfl ?_
                refine k_goto C 59 dX6_runScript_107 (by decide) ?_
                refine k_lo (lo' := [(4, .int (iI v104)), (0, .ref sc), (1, .int (iI N)), (2, .long (jL x))]) [0, 2, 3, 4] rfl ?_
                exact ih59 _ _ _ v104 u95.2.1 u95.2.2.1 u95.2.2.2.1 u95.2.2.2.2.1 u95.2.2.2.2.2.1 u95.2.2.2.2.2.2.1 u95.2.2.2.2.2.2.2.1 u95.2.2.2.2.2.2.2.2.1 u95.2.2.2.2.2.2.2.2.2 (⟨by omega, by omega, z3, z4, by rw [← i5, show (N - i).toNat = (N - v104).toNat + 1 by omega, rsF_go z2, e104]⟩) (by omega)
              · skip
                have hE : rsF x N N.toNat 0 n k m = i := by rw [← i5, show (N - i).toNat = (N - i).toNat - 1 + 1 by omega]; exact rsF_no (by rcases hu95 with z | z; (have := z.1; omega); exact z.2)
                refine k_iload C 1 rfl dX6_runScript_101 ?_
                exact k_iret C hR (u := (i, u95.2.1, u95.2.2.1, u95.2.2.2.1, u95.2.2.2.2.1, u95.2.2.2.2.2.1, u95.2.2.2.2.2.2.1, u95.2.2.2.2.2.2.2.1, u95.2.2.2.2.2.2.2.2.1, u95.2.2.2.2.2.2.2.2.2)) rfl (by (try dsimp only) <;> exact (⟨by omega, hE.symm⟩)) rfl (Nat.le_of_ble_eq_true rfl) (Nat.le_of_ble_eq_true rfl) dX6_runScript_103
        exact L59 _ n k m 0 (-1) bd0 cm0 sk0 tb ts fv fr fs (⟨by omega, by omega, hS0, Or.inl rfl, by rw [Int.sub_zero]⟩) (Nat.lt_succ_self _)
      · skip
        exact k_throw C hTh htab hfl rfl 14 rfl 0 rfl 1 2 rfl rfl (by decide +kernel) (by decide +kernel) (by decide +kernel) (by decide +kernel) (by decide +kernel) dX6_runScript_35 dX6_runScript_38 dX6_runScript_39 dX6_runScript_41 dX6_runScript_44 (Nat.le_of_ble_eq_true rfl) (Nat.le_of_ble_eq_true rfl) (Nat.le_of_ble_eq_true rfl) (Nat.le_of_ble_eq_true rfl) () rfl (by first | trivial | omega) rfl
  · skip
    have hu3 := bo_t hu3 c6
    exact k_throw C hTh htab hfl rfl 13 rfl 0 rfl 1 2 rfl rfl (by decide +kernel) (by decide +kernel) (by decide +kernel) (by decide +kernel) (by decide +kernel) dX6_runScript_9 dX6_runScript_12 dX6_runScript_13 dX6_runScript_15 dX6_runScript_18 (Nat.le_of_ble_eq_true rfl) (Nat.le_of_ble_eq_true rfl) (Nat.le_of_ble_eq_true rfl) (Nat.le_of_ble_eq_true rfl) () rfl (by omega) rfl
theorem in_X6_takeTurn_X6 : ∀ w ∈ wsX60, w ∈ wsX6_takeTurn := by decide +kernel
theorem in_X6_takeTurn_X0 : ∀ w ∈ wsX00, w ∈ wsX6_takeTurn := by decide +kernel
set_option maxHeartbeats 4000000 in
set_option maxRecDepth 100000 in
theorem c_X6_takeTurn (l : Launch) (G : KG) (sc tx so pr b0 b t va re su : Nat) (tl tb ts bd cm sk : Int) (fv fr fs : Nat → Int) (n k m : Nat) (r : Int) (hS : BdS n k m bd cm sk) (hT : BdT n k m tl tb ts fv fr fs) (hr : 0 ≤ r ∧ r < 2147483648) : Ct l G yX6_takeTurn wsX6_takeTurn (rmD 3 0 0) [.ref sc, .int (iI r)] [(sc, .inr (5, [.ref tx, .ref b0, .ref so, .ref pr, .ref b])), (b, .inr (0, [.ref t, .int (iI tl), .int (iI bd), .int (iI cm), .long (jL sk)])), (t, .inr (3, [.ref va, .ref re, .ref su, .int (iI tb), .int (iI ts)])), (va, .inl (g_I G, 631, .inl (aI fv))), (re, .inl (g_I G, 2524, .inl (aI fr))), (su, .inl (g_J G, 631, .inr (.inl (aL fs))))] (fun u : Int × Int × Int × Int × Int × Int × (Nat → Int) × (Nat → Int) × (Nat → Int) => TuOK (turn r n k m) u.1 u.2.1 u.2.2.1 u.2.2.2.1 u.2.2.2.2.1 u.2.2.2.2.2.1 u.2.2.2.2.2.2.1 u.2.2.2.2.2.2.2.1 u.2.2.2.2.2.2.2.2) (fun u : Int × Int × Int × Int × Int × Int × (Nat → Int) × (Nat → Int) × (Nat → Int) => none) (fun u : Int × Int × Int × Int × Int × Int × (Nat → Int) × (Nat → Int) × (Nat → Int) => [(sc, .inr (5, [.ref tx, .ref b0, .ref so, .ref pr, .ref b])), (b, .inr (0, [.ref t, .int (iI u.1), .int (iI u.2.1), .int (iI u.2.2.1), .long (jL u.2.2.2.1)])), (t, .inr (3, [.ref va, .ref re, .ref su, .int (iI u.2.2.2.2.1), .int (iI u.2.2.2.2.2.1)])), (va, .inl (g_I G, 631, .inl (aI u.2.2.2.2.2.2.1))), (re, .inl (g_I G, 2524, .inl (aI u.2.2.2.2.2.2.2.1))), (su, .inl (g_J G, 631, .inr (.inl (aL u.2.2.2.2.2.2.2.2))))]) := by
  refine Ct.of (cc := cX6_takeTurn) (maxL := 2) (ret := none) (by decide +kernel) rfl (Nat.le_of_ble_eq_true rfl) ?_
  intro X C hG hL hnm hR
  subst hG
  subst hL
  have C : Cx X cX6_takeTurn RX6 wsX6_takeTurn none 2 (rmD 3 0 0) := C
  obtain ⟨s1, s2, s3, s4, s5, s6, s7⟩ := id hS
  show K_ X 0 0 [(sc, .inr (5, [.ref tx, .ref b0, .ref so, .ref pr, .ref b])), (b, .inr (0, [.ref t, .int (iI tl), .int (iI bd), .int (iI cm), .long (jL sk)])), (t, .inr (3, [.ref va, .ref re, .ref su, .int (iI tb), .int (iI ts)])), (va, .inl (g_I (x_G X), 631, .inl (aI fv))), (re, .inl (g_I (x_G X), 2524, .inl (aI fr))), (su, .inl (g_J (x_G X), 631, .inr (.inl (aL fs))))] 0 [(0, .ref sc), (1, .int (iI r))] []
  refine k_iload_n C 1 rfl dX6_takeTurn_0 rfl ?_
  refine k_bipush C dX6_takeTurn_1 (by decide) ?_
  refine k_irem C ⟨by omega, by omega⟩ ⟨by omega, by omega⟩ dX6_takeTurn_3 ?_
  refine k_nmI (fun v3 e3 => ?_)
  rcases (show (v3 < 0 ∨ 3 < v3) ∨ (v3 = 0) ∨ (v3 = 1) ∨ (v3 = 2) ∨ (v3 = 3) by omega) with c4 | c4 | c4 | c4 | c4
  · refine k_tabOut C 85 (⟨by omega, by omega⟩) dX6_takeTurn_4 c4 (by decide) ?_
    refine k_aload_n C 0 rfl dX6_takeTurn_85 rfl ?_
    refine k_get C (Cn := RX6) (T := TX6) (N := 5) (ci := 5) (ref := "StruckCounts") in_X6_takeTurn_X6 0 rfl rfl 4 (by decide) 1 rfl rfl (v := .ref b) rfl dX6_takeTurn_86 ?_
    refine k_iconst C dX6_takeTurn_89 ?_
    refine k_callV C (y := yX0_letCome) [.int (iI 1)] 1 rfl (c_X0_letCome (x_l X) (x_G X) b t tl bd cm sk 1 n k m (by first | assumption | exact Or.inr rfl) (by first | assumption | exact Or.inr rfl)) gX6_takeTurn_X0_letCome rfl ⟨rfl, by decide +kernel, by decide +kernel, by decide +kernel⟩ ⟨by decide, by decide⟩ 1 (fs := [.ref t, .int (iI tl), .int (iI bd), .int (iI cm), .long (jL sk)]) rfl rfl rfl [1] (by decide) (wc := [(b, .inr (0, [.ref t, .int (iI tl), .int (iI bd), .int (iI cm), .long (jL sk)]))]) rfl [] rfl (Nat.le_of_ble_eq_true rfl) ⟨Nat.le_of_ble_eq_true rfl, Nat.le_of_ble_eq_true rfl⟩ dX6_takeTurn_90 (fun u90 => [(sc, .inr (5, [.ref tx, .ref b0, .ref so, .ref pr, .ref b])), (b, .inr (0, [.ref t, .int (iI tl), .int (iI bd), .int (iI u90.2.1), .long (jL u90.2.2)])), (t, .inr (3, [.ref va, .ref re, .ref su, .int (iI tb), .int (iI ts)])), (va, .inl (g_I (x_G X), 631, .inl (aI fv))), (re, .inl (g_I (x_G X), 2524, .inl (aI fr))), (su, .inl (g_J (x_G X), 631, .inr (.inl (aL fs))))]) (Or.inr ⟨[0, 2, 3, 4, 5], [0, 5, 1, 2, 3, 4], [(sc, .inr (5, [.ref tx, .ref b0, .ref so, .ref pr, .ref b])), (t, .inr (3, [.ref va, .ref re, .ref su, .int (iI tb), .int (iI ts)])), (va, .inl (g_I (x_G X), 631, .inl (aI fv))), (re, .inl (g_I (x_G X), 2524, .inl (aI fr))), (su, .inl (g_J (x_G X), 631, .inr (.inl (aL fs))))], rfl, by decide, by decide, by decide, fun _ => rfl⟩) (fun u90 => [.int (iI u90.1)]) (fun _ => rfl) 0 0 ⟨rfl, rfl⟩ (fun u90 hu90 => ?_)
    refine k_pop C dX6_takeTurn_93 rfl ?_
    exact k_vret C hR (u := (tl, bd, u90.2.1, u90.2.2, tb, ts, fv, fr, fs)) rfl (by (try dsimp only) <;> exact (TuOK_let hS hT hu90 (fun z => turn_n (by omega) z) (fun z => by rw [if_neg (by decide)]; exact turn_4 (by omega) z))) rfl (Nat.le_of_ble_eq_true rfl) (Nat.le_of_ble_eq_true rfl) dX6_takeTurn_94
  · refine k_tabIn C 36 (⟨by omega, by omega⟩) dX6_takeTurn_4 (by omega) (by omega) (by rw [c4]; rfl) (by decide) ?_
    refine k_aload_n C 0 rfl dX6_takeTurn_36 rfl ?_
    refine k_get C (Cn := RX6) (T := TX6) (N := 5) (ci := 5) (ref := "StruckCounts") in_X6_takeTurn_X6 0 rfl rfl 4 (by decide) 1 rfl rfl (v := .ref b) rfl dX6_takeTurn_37 ?_
    refine k_iconst C dX6_takeTurn_40 ?_
    refine k_iload_n C 1 rfl dX6_takeTurn_41 rfl ?_
    refine k_bipush C dX6_takeTurn_42 (by decide) ?_
    refine k_idiv C ⟨by omega, by omega⟩ ⟨by omega, by omega⟩ dX6_takeTurn_44 ?_
    refine k_nmI (fun v44 e44 => ?_)
    refine k_sipush C dX6_takeTurn_45 (by decide) ?_
    refine k_irem C ⟨by omega, by omega⟩ ⟨by omega, by omega⟩ dX6_takeTurn_48 ?_
    refine k_nmI (fun v48 e48 => ?_)
    refine k_iadd C dX6_takeTurn_49 ?_
    refine k_nmI (fun v49 e49 => ?_)
    refine k_callV C (y := yX0_begin) [.int (iI v49)] 1 rfl (c_X0_begin (x_l X) (x_G X) b t tl bd cm sk v49 ) gX6_takeTurn_X0_begin rfl ⟨rfl, by decide +kernel, by decide +kernel, by decide +kernel⟩ ⟨by decide, by decide⟩ 1 (fs := [.ref t, .int (iI tl), .int (iI bd), .int (iI cm), .long (jL sk)]) rfl rfl rfl [1] (by decide) (wc := [(b, .inr (0, [.ref t, .int (iI tl), .int (iI bd), .int (iI cm), .long (jL sk)]))]) rfl [] rfl (Nat.le_of_ble_eq_true rfl) ⟨Nat.le_of_ble_eq_true rfl, Nat.le_of_ble_eq_true rfl⟩ dX6_takeTurn_50 (fun u50 => [(sc, .inr (5, [.ref tx, .ref b0, .ref so, .ref pr, .ref b])), (b, .inr (0, [.ref t, .int (iI (-1)), .int (iI v49), .int (iI 0), .long (jL 0)])), (t, .inr (3, [.ref va, .ref re, .ref su, .int (iI tb), .int (iI ts)])), (va, .inl (g_I (x_G X), 631, .inl (aI fv))), (re, .inl (g_I (x_G X), 2524, .inl (aI fr))), (su, .inl (g_J (x_G X), 631, .inr (.inl (aL fs))))]) (Or.inr ⟨[0, 2, 3, 4, 5], [0, 5, 1, 2, 3, 4], [(sc, .inr (5, [.ref tx, .ref b0, .ref so, .ref pr, .ref b])), (t, .inr (3, [.ref va, .ref re, .ref su, .int (iI tb), .int (iI ts)])), (va, .inl (g_I (x_G X), 631, .inl (aI fv))), (re, .inl (g_I (x_G X), 2524, .inl (aI fr))), (su, .inl (g_J (x_G X), 631, .inr (.inl (aL fs))))], rfl, by decide, by decide, by decide, fun _ => rfl⟩) (fun u50 => []) (fun _ => rfl) 0 0 ⟨rfl, rfl⟩ (fun u50 hu50 => ?_)
    refine k_goto C 94 dX6_takeTurn_53 (by decide) ?_
    exact k_vret C hR (u := ((-1), v49, 0, 0, tb, ts, fv, fr, fs)) rfl (by (try dsimp only) <;> exact (TuOK_of (turn_0 (by omega)) (by rw [show 1 + r / 8 % 3000 = v49 by omega]; exact BdS_0 (n := n) (k := k) (m := m) (bd := bd) (cm := cm) (sk := sk) (by omega)) (Or.inl rfl))) rfl (Nat.le_of_ble_eq_true rfl) (Nat.le_of_ble_eq_true rfl) dX6_takeTurn_94
  · refine k_tabIn C 56 (⟨by omega, by omega⟩) dX6_takeTurn_4 (by omega) (by omega) (by rw [c4]; rfl) (by decide) ?_
    refine k_aload_n C 0 rfl dX6_takeTurn_56 rfl ?_
    refine k_get C (Cn := RX6) (T := TX6) (N := 5) (ci := 5) (ref := "StruckCounts") in_X6_takeTurn_X6 0 rfl rfl 4 (by decide) 1 rfl rfl (v := .ref b) rfl dX6_takeTurn_57 ?_
    refine k_aload_n C 0 rfl dX6_takeTurn_60 rfl ?_
    refine k_get C (Cn := RX6) (T := TX6) (N := 5) (ci := 5) (ref := "StruckCounts") in_X6_takeTurn_X6 0 rfl rfl 4 (by decide) 1 rfl rfl (v := .ref b) rfl dX6_takeTurn_61 ?_
    refine k_getN C (Cn := RX0) (T := TX0) (N := 5) (ci := 0) (ref := "StruckCounts$Board") in_X6_takeTurn_X0 1 rfl rfl 2 (by decide) 4 rfl rfl (v := .int (iI bd)) rfl dX6_takeTurn_64 ?_
    refine k_callV C (y := yX0_begin) [.int (iI bd)] 1 rfl (c_X0_begin (x_l X) (x_G X) b t tl bd cm sk bd ) gX6_takeTurn_X0_begin rfl ⟨rfl, by decide +kernel, by decide +kernel, by decide +kernel⟩ ⟨by decide, by decide⟩ 1 (fs := [.ref t, .int (iI tl), .int (iI bd), .int (iI cm), .long (jL sk)]) rfl rfl rfl [1] (by decide) (wc := [(b, .inr (0, [.ref t, .int (iI tl), .int (iI bd), .int (iI cm), .long (jL sk)]))]) rfl [] rfl (Nat.le_of_ble_eq_true rfl) ⟨Nat.le_of_ble_eq_true rfl, Nat.le_of_ble_eq_true rfl⟩ dX6_takeTurn_67 (fun u67 => [(sc, .inr (5, [.ref tx, .ref b0, .ref so, .ref pr, .ref b])), (b, .inr (0, [.ref t, .int (iI (-1)), .int (iI bd), .int (iI 0), .long (jL 0)])), (t, .inr (3, [.ref va, .ref re, .ref su, .int (iI tb), .int (iI ts)])), (va, .inl (g_I (x_G X), 631, .inl (aI fv))), (re, .inl (g_I (x_G X), 2524, .inl (aI fr))), (su, .inl (g_J (x_G X), 631, .inr (.inl (aL fs))))]) (Or.inr ⟨[0, 2, 3, 4, 5], [0, 5, 1, 2, 3, 4], [(sc, .inr (5, [.ref tx, .ref b0, .ref so, .ref pr, .ref b])), (t, .inr (3, [.ref va, .ref re, .ref su, .int (iI tb), .int (iI ts)])), (va, .inl (g_I (x_G X), 631, .inl (aI fv))), (re, .inl (g_I (x_G X), 2524, .inl (aI fr))), (su, .inl (g_J (x_G X), 631, .inr (.inl (aL fs))))], rfl, by decide, by decide, by decide, fun _ => rfl⟩) (fun u67 => []) (fun _ => rfl) 0 0 ⟨rfl, rfl⟩ (fun u67 hu67 => ?_)
    refine k_goto C 94 dX6_takeTurn_70 (by decide) ?_
    exact k_vret C hR (u := ((-1), bd, 0, 0, tb, ts, fv, fr, fs)) rfl (by (try dsimp only) <;> exact (TuOK_of (turn_1 (by omega)) ⟨s1, rfl, rfl, s4, s5, by decide, by decide⟩ (Or.inl rfl))) rfl (Nat.le_of_ble_eq_true rfl) (Nat.le_of_ble_eq_true rfl) dX6_takeTurn_94
  · refine k_tabIn C 73 (⟨by omega, by omega⟩) dX6_takeTurn_4 (by omega) (by omega) (by rw [c4]; rfl) (by decide) ?_
    refine k_aload_n C 0 rfl dX6_takeTurn_73 rfl ?_
    refine k_get C (Cn := RX6) (T := TX6) (N := 5) (ci := 5) (ref := "StruckCounts") in_X6_takeTurn_X6 0 rfl rfl 4 (by decide) 1 rfl rfl (v := .ref b) rfl dX6_takeTurn_74 ?_
    refine k_iconst C dX6_takeTurn_77 ?_
    refine k_callV C (y := yX0_letCome) [.int (iI 0)] 1 rfl (c_X0_letCome (x_l X) (x_G X) b t tl bd cm sk 0 n k m (by first | assumption | exact Or.inl rfl) (by first | assumption | exact Or.inl rfl)) gX6_takeTurn_X0_letCome rfl ⟨rfl, by decide +kernel, by decide +kernel, by decide +kernel⟩ ⟨by decide, by decide⟩ 1 (fs := [.ref t, .int (iI tl), .int (iI bd), .int (iI cm), .long (jL sk)]) rfl rfl rfl [1] (by decide) (wc := [(b, .inr (0, [.ref t, .int (iI tl), .int (iI bd), .int (iI cm), .long (jL sk)]))]) rfl [] rfl (Nat.le_of_ble_eq_true rfl) ⟨Nat.le_of_ble_eq_true rfl, Nat.le_of_ble_eq_true rfl⟩ dX6_takeTurn_78 (fun u78 => [(sc, .inr (5, [.ref tx, .ref b0, .ref so, .ref pr, .ref b])), (b, .inr (0, [.ref t, .int (iI tl), .int (iI bd), .int (iI u78.2.1), .long (jL u78.2.2)])), (t, .inr (3, [.ref va, .ref re, .ref su, .int (iI tb), .int (iI ts)])), (va, .inl (g_I (x_G X), 631, .inl (aI fv))), (re, .inl (g_I (x_G X), 2524, .inl (aI fr))), (su, .inl (g_J (x_G X), 631, .inr (.inl (aL fs))))]) (Or.inr ⟨[0, 2, 3, 4, 5], [0, 5, 1, 2, 3, 4], [(sc, .inr (5, [.ref tx, .ref b0, .ref so, .ref pr, .ref b])), (t, .inr (3, [.ref va, .ref re, .ref su, .int (iI tb), .int (iI ts)])), (va, .inl (g_I (x_G X), 631, .inl (aI fv))), (re, .inl (g_I (x_G X), 2524, .inl (aI fr))), (su, .inl (g_J (x_G X), 631, .inr (.inl (aL fs))))], rfl, by decide, by decide, by decide, fun _ => rfl⟩) (fun u78 => [.int (iI u78.1)]) (fun _ => rfl) 0 0 ⟨rfl, rfl⟩ (fun u78 hu78 => ?_)
    refine k_pop C dX6_takeTurn_81 rfl ?_
    refine k_goto C 94 dX6_takeTurn_82 (by decide) ?_
    exact k_vret C hR (u := (tl, bd, u78.2.1, u78.2.2, tb, ts, fv, fr, fs)) rfl (by (try dsimp only) <;> exact (TuOK_let hS hT hu78 (fun z => turn_n (by omega) z) (fun z => by rw [if_pos rfl]; exact turn_2 (by omega) z))) rfl (Nat.le_of_ble_eq_true rfl) (Nat.le_of_ble_eq_true rfl) dX6_takeTurn_94
  · refine k_tabIn C 73 (⟨by omega, by omega⟩) dX6_takeTurn_4 (by omega) (by omega) (by rw [c4]; rfl) (by decide) ?_
    refine k_aload_n C 0 rfl dX6_takeTurn_73 rfl ?_
    refine k_get C (Cn := RX6) (T := TX6) (N := 5) (ci := 5) (ref := "StruckCounts") in_X6_takeTurn_X6 0 rfl rfl 4 (by decide) 1 rfl rfl (v := .ref b) rfl dX6_takeTurn_74 ?_
    refine k_iconst C dX6_takeTurn_77 ?_
    refine k_callV C (y := yX0_letCome) [.int (iI 0)] 1 rfl (c_X0_letCome (x_l X) (x_G X) b t tl bd cm sk 0 n k m (by first | assumption | exact Or.inl rfl) (by first | assumption | exact Or.inl rfl)) gX6_takeTurn_X0_letCome rfl ⟨rfl, by decide +kernel, by decide +kernel, by decide +kernel⟩ ⟨by decide, by decide⟩ 1 (fs := [.ref t, .int (iI tl), .int (iI bd), .int (iI cm), .long (jL sk)]) rfl rfl rfl [1] (by decide) (wc := [(b, .inr (0, [.ref t, .int (iI tl), .int (iI bd), .int (iI cm), .long (jL sk)]))]) rfl [] rfl (Nat.le_of_ble_eq_true rfl) ⟨Nat.le_of_ble_eq_true rfl, Nat.le_of_ble_eq_true rfl⟩ dX6_takeTurn_78 (fun u78 => [(sc, .inr (5, [.ref tx, .ref b0, .ref so, .ref pr, .ref b])), (b, .inr (0, [.ref t, .int (iI tl), .int (iI bd), .int (iI u78.2.1), .long (jL u78.2.2)])), (t, .inr (3, [.ref va, .ref re, .ref su, .int (iI tb), .int (iI ts)])), (va, .inl (g_I (x_G X), 631, .inl (aI fv))), (re, .inl (g_I (x_G X), 2524, .inl (aI fr))), (su, .inl (g_J (x_G X), 631, .inr (.inl (aL fs))))]) (Or.inr ⟨[0, 2, 3, 4, 5], [0, 5, 1, 2, 3, 4], [(sc, .inr (5, [.ref tx, .ref b0, .ref so, .ref pr, .ref b])), (t, .inr (3, [.ref va, .ref re, .ref su, .int (iI tb), .int (iI ts)])), (va, .inl (g_I (x_G X), 631, .inl (aI fv))), (re, .inl (g_I (x_G X), 2524, .inl (aI fr))), (su, .inl (g_J (x_G X), 631, .inr (.inl (aL fs))))], rfl, by decide, by decide, by decide, fun _ => rfl⟩) (fun u78 => [.int (iI u78.1)]) (fun _ => rfl) 0 0 ⟨rfl, rfl⟩ (fun u78 hu78 => ?_)
    refine k_pop C dX6_takeTurn_81 rfl ?_
    refine k_goto C 94 dX6_takeTurn_82 (by decide) ?_
    exact k_vret C hR (u := (tl, bd, u78.2.1, u78.2.2, tb, ts, fv, fr, fs)) rfl (by (try dsimp only) <;> exact (TuOK_let hS hT hu78 (fun z => turn_n (by omega) z) (fun z => by rw [if_pos rfl]; exact turn_2 (by omega) z))) rfl (Nat.le_of_ble_eq_true rfl) (Nat.le_of_ble_eq_true rfl) dX6_takeTurn_94
