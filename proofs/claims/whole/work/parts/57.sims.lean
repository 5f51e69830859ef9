theorem jL_mod (x : Int) : jL (x % 18446744073709551616) = jL x := by
  have h : x = x % 18446744073709551616 + 18446744073709551616 * (x / 18446744073709551616) := by omega
  have e : jL (18446744073709551616 * (x / 18446744073709551616)) = 0 := by rw [← jL_mul, show jL 18446744073709551616 = 0 from by decide, Int64.zero_mul]
  have h2 : jL x = jL (x % 18446744073709551616 + 18446744073709551616 * (x / 18446744073709551616)) := congrArg jL h
  rw [h2, ← jL_add, e, Int64.add_zero]
def lcg (x : Int) : Int := x * 6364136223846793005 + 1442695040888963407
def trn (x : Int) : Int := x % 18446744073709551616 / 8589934592
theorem jl_shr33 (x : Int) : ((jL x).toUInt64 >>> ((iI 33).toInt64.toUInt64 &&& Int64.toUInt64 63)).toInt64 = jL (trn x) := by
  have h0 : 0 ≤ x % 18446744073709551616 := by omega
  have h := jl_shr (m := (x % 18446744073709551616).toNat) (k := 33) (by omega) (by decide) (by decide)
  rw [Int.toNat_of_nonneg h0, jL_mod] at h
  rw [h]
  unfold trn
  rw [Int.natCast_ediv, Int.toNat_of_nonneg h0]
  rfl
def siF : Nat → Int → Nat → Nat → Nat → Nat × Nat × Nat
  | 0, _, n, k, m => (n, k, m)
  | f + 1, x, n, k, m => siF f (lcg x) (turn (trn (lcg x)) n k m).1 (turn (trn (lcg x)) n k m).2.1 (turn (trn (lcg x)) n k m).2.2
theorem siF_s {f : Nat} {x : Int} {n k m : Nat} : siF (f + 1) x n k m = siF f (lcg x) (turn (trn (lcg x)) n k m).1 (turn (trn (lcg x)) n k m).2.1 (turn (trn (lcg x)) n k m).2.2 := rfl

theorem in_X6_simulate_X6 : ∀ w ∈ wsX60, w ∈ wsX6_simulate := by decide +kernel
set_option maxHeartbeats 4000000 in
set_option maxRecDepth 100000 in
theorem c_X6_simulate (l : Launch) (G : KG) (sc tx so pr b0 b t va re su : Nat) (tl tb ts bd cm sk : Int) (fv fr fs : Nat → Int) (t0 : Nat) (tl0 bd0 cm0 sk0 : Int) (n k m : Nat) (sd M : Int) (hS0 : BdS n k m bd0 cm0 sk0) (hM : -2147483648 ≤ M ∧ M < 2147483648) (hfl : l.stackTraces = false) : Cxt l G yX6_simulate wsX6_simulate (rmD 7 2 12) [.ref sc, .long (jL sd), .int (iI M)] [(sc, .inr (5, [.ref tx, .ref b0, .ref so, .ref pr, .ref b])), (b0, .inr (0, [.ref t0, .int (iI tl0), .int (iI bd0), .int (iI cm0), .long (jL sk0)])), (b, .inr (0, [.ref t, .int (iI tl), .int (iI bd), .int (iI cm), .long (jL sk)])), (t, .inr (3, [.ref va, .ref re, .ref su, .int (iI tb), .int (iI ts)])), (va, .inl (g_I G, 631, .inl (aI fv))), (re, .inl (g_I G, 2524, .inl (aI fr))), (su, .inl (g_J G, 631, .inr (.inl (aL fs))))] (fun u : Int × Int × Int × Int × Int × Int × Int × (Nat → Int) × (Nat → Int) × (Nat → Int) => (1 ≤ M ∧ M ≤ 60) ∧ u.1 = (cA (siF M.toNat sd n k m).2.2 (siF M.toNat sd n k m).2.1 (siF M.toNat sd n k m).1 : Int)) (fun u : Int × Int × Int × Int × Int × Int × Int × (Nat → Int) × (Nat → Int) × (Nat → Int) => some (.int (iI u.1))) (fun u : Int × Int × Int × Int × Int × Int × Int × (Nat → Int) × (Nat → Int) × (Nat → Int) => [(sc, .inr (5, [.ref tx, .ref b0, .ref so, .ref pr, .ref b])), (b0, .inr (0, [.ref t0, .int (iI tl0), .int (iI bd0), .int (iI cm0), .long (jL sk0)])), (b, .inr (0, [.ref t, .int (iI u.2.1), .int (iI u.2.2.1), .int (iI u.2.2.2.1), .long (jL u.2.2.2.2.1)])), (t, .inr (3, [.ref va, .ref re, .ref su, .int (iI u.2.2.2.2.2.1), .int (iI u.2.2.2.2.2.2.1)])), (va, .inl (g_I G, 631, .inl (aI u.2.2.2.2.2.2.2.1))), (re, .inl (g_I G, 2524, .inl (aI u.2.2.2.2.2.2.2.2.1))), (su, .inl (g_J G, 631, .inr (.inl (aL u.2.2.2.2.2.2.2.2.2))))]) (fun v : Unit => ¬ (1 ≤ M ∧ M ≤ 60)) (fun v : Unit => "java/lang/IllegalArgumentException") (fun v : Unit => [(sc, .inr (5, [.ref tx, .ref b0, .ref so, .ref pr, .ref b])), (b0, .inr (0, [.ref t0, .int (iI tl0), .int (iI bd0), .int (iI cm0), .long (jL sk0)])), (b, .inr (0, [.ref t, .int (iI tl), .int (iI bd), .int (iI cm), .long (jL sk)])), (t, .inr (3, [.ref va, .ref re, .ref su, .int (iI tb), .int (iI ts)])), (va, .inl (g_I G, 631, .inl (aI fv))), (re, .inl (g_I G, 2524, .inl (aI fr))), (su, .inl (g_J G, 631, .inr (.inl (aL fs))))]) := by
  refine Cxt.of (cc := cX6_simulate) (maxL := 7) (ret := (some .int)) (by decide +kernel) rfl (Nat.le_of_ble_eq_true rfl) ?_
  intro X C hG hL hnm hR hQ htab
  subst hG
  subst hL
  have C : Cx X cX6_simulate RX6 wsX6_simulate (some .int) 7 (rmD 7 2 12) := C
  have hTh : Thr X (fun v : Unit => ¬ (1 ≤ M ∧ M ≤ 60)) (fun v : Unit => "java/lang/IllegalArgumentException") (fun v : Unit => [(sc, .inr (5, [.ref tx, .ref b0, .ref so, .ref pr, .ref b])), (b0, .inr (0, [.ref t0, .int (iI tl0), .int (iI bd0), .int (iI cm0), .long (jL sk0)])), (b, .inr (0, [.ref t, .int (iI tl), .int (iI bd), .int (iI cm), .long (jL sk)])), (t, .inr (3, [.ref va, .ref re, .ref su, .int (iI tb), .int (iI ts)])), (va, .inl (g_I (x_G X), 631, .inl (aI fv))), (re, .inl (g_I (x_G X), 2524, .inl (aI fr))), (su, .inl (g_J (x_G X), 631, .inr (.inl (aL fs))))]) := ⟨_, by rw [C.R]; exact hQ⟩
  show K_ X 0 0 [(sc, .inr (5, [.ref tx, .ref b0, .ref so, .ref pr, .ref b])), (b0, .inr (0, [.ref t0, .int (iI tl0), .int (iI bd0), .int (iI cm0), .long (jL sk0)])), (b, .inr (0, [.ref t, .int (iI tl), .int (iI bd), .int (iI cm), .long (jL sk)])), (t, .inr (3, [.ref va, .ref re, .ref su, .int (iI tb), .int (iI ts)])), (va, .inl (g_I (x_G X), 631, .inl (aI fv))), (re, .inl (g_I (x_G X), 2524, .inl (aI fr))), (su, .inl (g_J (x_G X), 631, .inr (.inl (aL fs))))] 0 [(0, .ref sc), (1, .long (jL sd)), (3, .int (iI M))] []
  refine k_iload_n C 2 rfl dX6_simulate_0 rfl ?_
  refine k_iconst C dX6_simulate_1 ?_
  refine k_bipush C dX6_simulate_2 (by decide) ?_
  refine k_callS C (y := yX6_outside) [.int (iI M), .int (iI 1), .int (iI 60)] 3 rfl (c_X6_outside (x_l X) (x_G X) M 1 60 (by omega) (by omega) (by omega)) gX6_simulate_X6_outside rfl ⟨by decide +kernel, by decide +kernel, by decide +kernel⟩ ⟨by decide, by decide⟩ [] (by decide) (wc := []) rfl [] rfl (Nat.le_of_ble_eq_true rfl) ⟨Nat.le_of_ble_eq_true rfl, Nat.le_of_ble_eq_true rfl⟩ dX6_simulate_4 (fun _ => [(sc, .inr (5, [.ref tx, .ref b0, .ref so, .ref pr, .ref b])), (b0, .inr (0, [.ref t0, .int (iI tl0), .int (iI bd0), .int (iI cm0), .long (jL sk0)])), (b, .inr (0, [.ref t, .int (iI tl), .int (iI bd), .int (iI cm), .long (jL sk)])), (t, .inr (3, [.ref va, .ref re, .ref su, .int (iI tb), .int (iI ts)])), (va, .inl (g_I (x_G X), 631, .inl (aI fv))), (re, .inl (g_I (x_G X), 2524, .inl (aI fr))), (su, .inl (g_J (x_G X), 631, .inr (.inl (aL fs))))]) (Or.inl (fun _ => ⟨rfl, rfl⟩)) (fun u4 => [.int (iI u4)]) (fun _ => rfl) 0 0 ⟨rfl, rfl⟩ (fun u4 hu4 => ?_)
  refine k_if_eq C 20 (⟨by omega, by omega⟩) dX6_simulate_7 (by decide) (fun c7 => ?_) (fun c7 => ?_)
  · skip
    have hu4 := bo_f hu4 c7
    refine k_aload_n C 0 rfl dX6_simulate_20 rfl ?_
    refine k_get C (Cn := RX6) (T := TX6) (N := 5) (ci := 5) (ref := "StruckCounts") in_X6_simulate_X6 0 rfl rfl 4 (by decide) 3 rfl rfl (v := .ref b) rfl dX6_simulate_21 ?_
    refine k_aload_n C 0 rfl dX6_simulate_24 rfl ?_
    refine k_get C (Cn := RX6) (T := TX6) (N := 5) (ci := 5) (ref := "StruckCounts") in_X6_simulate_X6 0 rfl rfl 1 (by decide) 4 rfl rfl (v := .ref b0) rfl dX6_simulate_25 ?_
    refine k_callV C (y := yX0_copyOf) [.ref b0] 1 rfl (c_X0_copyOf (x_l X) (x_G X) b t b0 t0 tl bd cm sk tl0 bd0 cm0 sk0 ) gX6_simulate_X0_copyOf rfl ⟨rfl, by decide +kernel, by decide +kernel, by decide +kernel⟩ ⟨by decide, by decide⟩ 2 (fs := [.ref t, .int (iI tl), .int (iI bd), .int (iI cm), .long (jL sk)]) rfl rfl rfl [2, 1] (by decide) (wc := [(b, .inr (0, [.ref t, .int (iI tl), .int (iI bd), .int (iI cm), .long (jL sk)])), (b0, .inr (0, [.ref t0, .int (iI tl0), .int (iI bd0), .int (iI cm0), .long (jL sk0)]))]) rfl [] rfl (Nat.le_of_ble_eq_true rfl) ⟨Nat.le_of_ble_eq_true rfl, Nat.le_of_ble_eq_true rfl⟩ dX6_simulate_28 (fun u28 => [(sc, .inr (5, [.ref tx, .ref b0, .ref so, .ref pr, .ref b])), (b0, .inr (0, [.ref t0, .int (iI tl0), .int (iI bd0), .int (iI cm0), .long (jL sk0)])), (b, .inr (0, [.ref t, .int (iI (-1)), .int (iI bd0), .int (iI cm0), .long (jL sk0)])), (t, .inr (3, [.ref va, .ref re, .ref su, .int (iI tb), .int (iI ts)])), (va, .inl (g_I (x_G X), 631, .inl (aI fv))), (re, .inl (g_I (x_G X), 2524, .inl (aI fr))), (su, .inl (g_J (x_G X), 631, .inr (.inl (aL fs))))]) (Or.inr ⟨[0, 3, 4, 5, 6], [0, 6, 5, 1, 2, 3, 4], [(sc, .inr (5, [.ref tx, .ref b0, .ref so, .ref pr, .ref b])), (t, .inr (3, [.ref va, .ref re, .ref su, .int (iI tb), .int (iI ts)])), (va, .inl (g_I (x_G X), 631, .inl (aI fv))), (re, .inl (g_I (x_G X), 2524, .inl (aI fr))), (su, .inl (g_J (x_G X), 631, .inr (.inl (aL fs))))], rfl, by decide, by decide, by decide, fun _ => rfl⟩) (fun u28 => []) (fun _ => rfl) 0 0 ⟨rfl, rfl⟩ (fun u28 hu28 => ?_)
    refine k_lload_n C 1 rfl dX6_simulate_31 rfl ?_
    refine k_lstore C (lo' := [(4, .long (jL sd)), (0, .ref sc), (1, .long (jL sd)), (3, .int (iI M))]) dX6_simulate_32 (by decide) rfl ?_
    refine k_iconst C dX6_simulate_34 ?_
    refine k_istore C (lo' := [(6, .int (iI 0)), (4, .long (jL sd)), (0, .ref sc), (1, .long (jL sd)), (3, .int (iI M))]) dX6_simulate_35 (by decide) rfl ?_
    have L37 : ∀ (nf : Nat) (nq : Nat) (kq : Nat) (mq : Nat) (x : Int) (i : Int) (tl1 : Int) (bd1 : Int) (cm1 : Int) (sk1 : Int) (tb1 : Int) (ts1 : Int) (f1 : Nat → Int) (f2 : Nat → Int) (f3 : Nat → Int), (0 ≤ i ∧ i ≤ M ∧ BdS nq kq mq bd1 cm1 sk1 ∧ BdT nq kq mq tl1 tb1 ts1 f1 f2 f3 ∧ siF (M - i).toNat x nq kq mq = (siF M.toNat sd n k m)) → (M - i).toNat < nf → K_ X 0 0 [(sc, .inr (5, [.ref tx, .ref b0, .ref so, .ref pr, .ref b])), (b0, .inr (0, [.ref t0, .int (iI tl0), .int (iI bd0), .int (iI cm0), .long (jL sk0)])), (b, .inr (0, [.ref t, .int (iI tl1), .int (iI bd1), .int (iI cm1), .long (jL sk1)])), (t, .inr (3, [.ref va, .ref re, .ref su, .int (iI tb1), .int (iI ts1)])), (va, .inl (g_I (x_G X), 631, .inl (aI f1))), (re, .inl (g_I (x_G X), 2524, .inl (aI f2))), (su, .inl (g_J (x_G X), 631, .inr (.inl (aL f3))))] 37 [(6, .int (iI i)), (4, .long (jL x)), (0, .ref sc), (1, .long (jL sd)), (3, .int (iI M))] [] := by
      intro nf
      induction nf with
      | zero => intro nq kq mq x i tl1 bd1 cm1 sk1 tb1 ts1 f1 f2 f3 hI hm; exact absurd hm (Nat.not_lt_zero _)
      | succ nf ih37 =>
        intro nq kq mq x i tl1 bd1 cm1 sk1 tb1 ts1 f1 f2 f3 hI37 hm37
        obtain ⟨i1, i2, i3, i4, i5⟩ := hI37
        refine k_iload C 0 rfl dX6_simulate_37 ?_
        refine k_iload_n C 4 rfl dX6_simulate_39 rfl ?_
        refine k_icmp_ge C 71 (⟨by omega, by omega⟩) (⟨by omega, by omega⟩) dX6_simulate_40 (by decide) (fun c40 => ?_) (fun c40 => ?_)
        · skip
          refine k_aload_n C 2 rfl dX6_simulate_71 rfl ?_
          refine k_get C (Cn := RX6) (T := TX6) (N := 5) (ci := 5) (ref := "StruckCounts") in_X6_simulate_X6 0 rfl rfl 4 (by decide) 3 rfl rfl (v := .ref b) rfl dX6_simulate_72 ?_
          refine k_callV C (y := yX0_countLeft) [] 0 rfl (c_X0_countLeft (x_l X) (x_G X) b t va re su tl1 tb1 ts1 bd1 cm1 sk1 nq kq mq f1 f2 f3 (i3) (i4)) gX6_simulate_X0_countLeft rfl ⟨rfl, by decide +kernel, by decide +kernel, by decide +kernel⟩ ⟨by decide, by decide⟩ 2 (fs := [.ref t, .int (iI tl1), .int (iI bd1), .int (iI cm1), .long (jL sk1)]) rfl rfl rfl [2, 3, 4, 5, 6] (by decide) (wc := [(b, .inr (0, [.ref t, .int (iI tl1), .int (iI bd1), .int (iI cm1), .long (jL sk1)])), (t, .inr (3, [.ref va, .ref re, .ref su, .int (iI tb1), .int (iI ts1)])), (va, .inl (g_I (x_G X), 631, .inl (aI f1))), (re, .inl (g_I (x_G X), 2524, .inl (aI f2))), (su, .inl (g_J (x_G X), 631, .inr (.inl (aL f3))))]) rfl [] rfl (Nat.le_of_ble_eq_true rfl) ⟨Nat.le_of_ble_eq_true rfl, Nat.le_of_ble_eq_true rfl⟩ dX6_simulate_75 (fun u75 => [(sc, .inr (5, [.ref tx, .ref b0, .ref so, .ref pr, .ref b])), (b0, .inr (0, [.ref t0, .int (iI tl0), .int (iI bd0), .int (iI cm0), .long (jL sk0)])), (b, .inr (0, [.ref t, .int (iI cm1), .int (iI bd1), .int (iI cm1), .long (jL sk1)])), (t, .inr (3, [.ref va, .ref re, .ref su, .int (iI u75.2.1), .int (iI u75.2.2.1)])), (va, .inl (g_I (x_G X), 631, .inl (aI u75.2.2.2.1))), (re, .inl (g_I (x_G X), 2524, .inl (aI u75.2.2.2.2.1))), (su, .inl (g_J (x_G X), 631, .inr (.inl (aL u75.2.2.2.2.2))))]) (Or.inr ⟨[0, 1], [0, 1, 2, 3, 4, 5, 6], [(sc, .inr (5, [.ref tx, .ref b0, .ref so, .ref pr, .ref b])), (b0, .inr (0, [.ref t0, .int (iI tl0), .int (iI bd0), .int (iI cm0), .long (jL sk0)]))], rfl, by decide, by decide, by decide, fun _ => rfl⟩) (fun u75 => [.int (iI u75.1)]) (fun _ => rfl) 0 0 ⟨rfl, rfl⟩ (fun u75 hu75 => ?_)
          exact k_iret C hR (u := (u75.1, cm1, bd1, cm1, sk1, u75.2.1, u75.2.2.1, u75.2.2.2.1, u75.2.2.2.2.1, u75.2.2.2.2.2)) rfl (by (try dsimp only) <;> exact (⟨by omega, by rw [← i5, show (M - i).toNat = 0 by omega]; exact hu75.2⟩)) rfl (Nat.le_of_ble_eq_true rfl) (Nat.le_of_ble_eq_true rfl) dX6_simulate_78
        · skip
          refine k_lload C 1 rfl dX6_simulate_43 ?_
          refine k_ldc2 C 6364136223846793005 5 rfl (by decide) dX6_simulate_45 ?_
          refine k_lmul C dX6_simulate_48 ?_
          refine k_nmL (fun v48 e48 => ?_)
          refine k_ldc2 C 1442695040888963407 6 rfl (by decide) dX6_simulate_49 ?_
          refine k_ladd C dX6_simulate_52 ?_
          refine k_nmL (fun v52 e52 => ?_)
          have hl : v52 = lcg x := by unfold lcg; omega
          refine k_lstore C (lo' := [(4, .long (jL v52)), (6, .int (iI i)), (0, .ref sc), (1, .long (jL sd)), (3, .int (iI M))]) dX6_simulate_53 (by decide) rfl ?_
          refine k_aload_n C 2 rfl dX6_simulate_55 rfl ?_
          refine k_lload C 0 rfl dX6_simulate_56 ?_
          refine k_bipush C dX6_simulate_58 (by decide) ?_
          refine k_lushr C (trn v52) (jl_shr33 _) dX6_simulate_60 ?_
          refine k_nmL (fun v60 e60 => ?_)
          have hr : 0 ≤ v60 ∧ v60 < 2147483648 := by rw [e60]; unfold trn; omega
          refine k_l2i C dX6_simulate_61 ?_
          refine k_callV C (y := yX6_takeTurn) [.int (iI v60)] 1 rfl (c_X6_takeTurn (x_l X) (x_G X) sc tx so pr b0 b t va re su tl1 tb1 ts1 bd1 cm1 sk1 f1 f2 f3 nq kq mq v60 (i3) (i4) (hr)) gX6_simulate_X6_takeTurn rfl ⟨rfl, by decide +kernel, by decide +kernel, by decide +kernel⟩ ⟨by decide, by decide⟩ 0 (fs := [.ref tx, .ref b0, .ref so, .ref pr, .ref b]) rfl rfl rfl [0, 2, 3, 4, 5, 6] (by decide) (wc := [(sc, .inr (5, [.ref tx, .ref b0, .ref so, .ref pr, .ref b])), (b, .inr (0, [.ref t, .int (iI tl1), .int (iI bd1), .int (iI cm1), .long (jL sk1)])), (t, .inr (3, [.ref va, .ref re, .ref su, .int (iI tb1), .int (iI ts1)])), (va, .inl (g_I (x_G X), 631, .inl (aI f1))), (re, .inl (g_I (x_G X), 2524, .inl (aI f2))), (su, .inl (g_J (x_G X), 631, .inr (.inl (aL f3))))]) rfl [] rfl (Nat.le_of_ble_eq_true rfl) ⟨Nat.le_of_ble_eq_true rfl, Nat.le_of_ble_eq_true rfl⟩ dX6_simulate_62 (fun u62 => [(sc, .inr (5, [.ref tx, .ref b0, .ref so, .ref pr, .ref b])), (b0, .inr (0, [.ref t0, .int (iI tl0), .int (iI bd0), .int (iI cm0), .long (jL sk0)])), (b, .inr (0, [.ref t, .int (iI u62.1), .int (iI u62.2.1), .int (iI u62.2.2.1), .long (jL u62.2.2.2.1)])), (t, .inr (3, [.ref va, .ref re, .ref su, .int (iI u62.2.2.2.2.1), .int (iI u62.2.2.2.2.2.1)])), (va, .inl (g_I (x_G X), 631, .inl (aI u62.2.2.2.2.2.2.1))), (re, .inl (g_I (x_G X), 2524, .inl (aI u62.2.2.2.2.2.2.2.1))), (su, .inl (g_J (x_G X), 631, .inr (.inl (aL u62.2.2.2.2.2.2.2.2))))]) (Or.inr ⟨[1], [1, 0, 2, 3, 4, 5, 6], [(b0, .inr (0, [.ref t0, .int (iI tl0), .int (iI bd0), .int (iI cm0), .long (jL sk0)]))], rfl, by decide, by decide, by decide, fun _ => rfl⟩) (fun u62 => []) (fun _ => rfl) 0 0 ⟨rfl, rfl⟩ (fun u62 hu62 => ?_)
          rw [e60, hl] at hu62
          obtain ⟨v65, e65⟩ : ∃ y : Int, y = i + 1 := ⟨_, rfl⟩
          refine k_iinc C (lo' := [(6, .int (iI v65)), (4, .long (jL v52)), (0, .ref sc), (1, .long (jL sd)), (3, .int (iI M))]) 1 rfl dX6_simulate_65 (by decide) v65 e65 rfl ?_
          refine k_goto C 37 dX6_simulate_68 (by decide) ?_
          exact ih37 _ _ _ v52 v65 u62.1 u62.2.1 u62.2.2.1 u62.2.2.2.1 u62.2.2.2.2.1 u62.2.2.2.2.2.1 u62.2.2.2.2.2.2.1 u62.2.2.2.2.2.2.2.1 u62.2.2.2.2.2.2.2.2 (⟨by omega, by omega, hu62.1, hu62.2, by rw [← i5, show (M - i).toNat = (M - v65).toNat + 1 by omega, siF_s, hl]⟩) (by omega)
    exact L37 _ n k m sd 0 (-1) bd0 cm0 sk0 tb ts fv fr fs (⟨by omega, by omega, hS0, Or.inl rfl, by rw [Int.sub_zero]⟩) (Nat.lt_succ_self _)
  · skip
    have hu4 := bo_t hu4 c7
    exact k_throw C hTh htab hfl rfl 15 rfl 0 rfl 1 2 rfl rfl (by decide +kernel) (by decide +kernel) (by decide +kernel) (by decide +kernel) (by decide +kernel) dX6_simulate_10 dX6_simulate_13 dX6_simulate_14 dX6_simulate_16 dX6_simulate_19 (Nat.le_of_ble_eq_true rfl) (Nat.le_of_ble_eq_true rfl) (Nat.le_of_ble_eq_true rfl) (Nat.le_of_ble_eq_true rfl) () rfl (by omega) rfl
