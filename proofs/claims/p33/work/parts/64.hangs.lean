set_option maxHeartbeats 4000000 in
set_option maxRecDepth 100000 in
theorem c_L_hangs (l : Launch) (G : KG) (sc tx so pr b2 : Nat) (b t va re su : Nat) (tl tb ts bd cm sk : Int) (n k m : Nat) (fv fr fs : Nat → Int) (hS : BdS n k m bd cm sk) (hT : BdT n k m tl tb ts fv fr fs) (hfl : l.stackTraces = false) : Ct l G yL_hangs wsL_hangs (rmD 9 1 6) [.ref sc] [(sc, .inr (5, [.ref tx, .ref b, .ref so, .ref pr, .ref b2])), (b, .inr (0, [.ref t, .int (iI tl), .int (iI bd), .int (iI cm), .long (jL sk)])), (t, .inr (3, [.ref va, .ref re, .ref su, .int (iI tb), .int (iI ts)])), (va, .inl (g_I G, 631, .inl (aI fv))), (re, .inl (g_I G, 2524, .inl (aI fr))), (su, .inl (g_J G, 631, .inr (.inl (aL fs))))] (fun u : Int × Int × Int × (Nat → Int) × (Nat → Int) × (Nat → Int) => BdT n k m u.1 u.2.1 u.2.2.1 u.2.2.2.1 u.2.2.2.2.1 u.2.2.2.2.2) (fun u : Int × Int × Int × (Nat → Int) × (Nat → Int) × (Nat → Int) => some (.int (iI 1))) (fun u : Int × Int × Int × (Nat → Int) × (Nat → Int) × (Nat → Int) => [(sc, .inr (5, [.ref tx, .ref b, .ref so, .ref pr, .ref b2])), (b, .inr (0, [.ref t, .int (iI u.1), .int (iI bd), .int (iI cm), .long (jL sk)])), (t, .inr (3, [.ref va, .ref re, .ref su, .int (iI u.2.1), .int (iI u.2.2.1)])), (va, .inl (g_I G, 631, .inl (aI u.2.2.2.1))), (re, .inl (g_I G, 2524, .inl (aI u.2.2.2.2.1))), (su, .inl (g_J G, 631, .inr (.inl (aL u.2.2.2.2.2))))]) := by
  refine Ct.of (cc := cL_hangs) (maxL := 11) (ret := (some .boolean)) (by decide +kernel) rfl (Nat.le_of_ble_eq_true rfl) ?_
  intro X C hG hL hnm hR
  subst hG
  subst hL
  have C : Cx X cL_hangs RL wsL_hangs (some .boolean) 11 (rmD 9 1 6) := C
  obtain ⟨s1, s2, s3, s4, s5, s6, s7⟩ := id hS
  show K_ X 0 0 [(sc, .inr (5, [.ref tx, .ref b, .ref so, .ref pr, .ref b2])), (b, .inr (0, [.ref t, .int (iI tl), .int (iI bd), .int (iI cm), .long (jL sk)])), (t, .inr (3, [.ref va, .ref re, .ref su, .int (iI tb), .int (iI ts)])), (va, .inl (g_I (x_G X), 631, .inl (aI fv))), (re, .inl (g_I (x_G X), 2524, .inl (aI fr))), (su, .inl (g_J (x_G X), 631, .inr (.inl (aL fs))))] 0 [(0, .ref sc)] []
  refine k_aload_n C 0 rfl dL_hangs_0 rfl ?_
  refine k_iconst C dL_hangs_1 ?_
  refine k_callSW C (y := yL_about) [.ref sc, .int (iI 0)] 2 rfl (o_L_about (x_l X) (x_G X) sc tx so pr b2 b t va re su tl tb ts bd cm sk n k m fv fr fs 0 (by first | assumption | omega) (by first | assumption | omega) (by first | assumption | omega) (by first | assumption | omega)) gL_hangs_L_about rfl ⟨by decide +kernel, by decide +kernel, by decide +kernel⟩ ⟨by decide, by decide⟩ [0, 1, 2, 3, 4, 5] (by decide) (wc := [(sc, .inr (5, [.ref tx, .ref b, .ref so, .ref pr, .ref b2])), (b, .inr (0, [.ref t, .int (iI tl), .int (iI bd), .int (iI cm), .long (jL sk)])), (t, .inr (3, [.ref va, .ref re, .ref su, .int (iI tb), .int (iI ts)])), (va, .inl (g_I (x_G X), 631, .inl (aI fv))), (re, .inl (g_I (x_G X), 2524, .inl (aI fr))), (su, .inl (g_J (x_G X), 631, .inr (.inl (aL fs))))]) rfl [] rfl (Nat.le_of_ble_eq_true rfl) ⟨Nat.le_of_ble_eq_true rfl, Nat.le_of_ble_eq_true rfl⟩ dL_hangs_2 (fun u2 => [(sc, .inr (5, [.ref tx, .ref b, .ref so, .ref pr, .ref b2])), (b, .inr (0, [.ref t, .int (iI u2.2.1), .int (iI bd), .int (iI cm), .long (jL sk)])), (t, .inr (3, [.ref va, .ref re, .ref su, .int (iI u2.2.2.1), .int (iI u2.2.2.2.1)])), (va, .inl (g_I (x_G X), 631, .inl (aI u2.2.2.2.2.1))), (re, .inl (g_I (x_G X), 2524, .inl (aI u2.2.2.2.2.2.1))), (su, .inl (g_J (x_G X), 631, .inr (.inl (aL u2.2.2.2.2.2.2))))]) (Or.inr ⟨[], [0, 1, 2, 3, 4, 5], [], rfl, by decide, by decide, by decide, fun _ => rfl⟩) (fun u2 => [.int (iI u2.1)]) (fun _ => rfl) 0 0 ⟨rfl, rfl⟩ (fun u2 hu2 => ?_)
  obtain ⟨-, a2, bt2⟩ := hu2
  have f2 := a2.trans (ab_0 n k m)
  refine k_istore_n C (lo' := [(1, .int (iI u2.1)), (0, .ref sc)]) dL_hangs_5 rfl (by decide) rfl ?_
  refine k_aload_n C 1 rfl dL_hangs_6 rfl ?_
  refine k_iconst C dL_hangs_7 ?_
  refine k_callSW C (y := yL_about) [.ref sc, .int (iI 1)] 2 rfl (o_L_about (x_l X) (x_G X) sc tx so pr b2 b t va re su u2.2.1 u2.2.2.1 u2.2.2.2.1 bd cm sk n k m u2.2.2.2.2.1 u2.2.2.2.2.2.1 u2.2.2.2.2.2.2 1 (by first | assumption | omega) (by first | assumption | omega) (by first | assumption | omega) (by first | assumption | omega)) gL_hangs_L_about rfl ⟨by decide +kernel, by decide +kernel, by decide +kernel⟩ ⟨by decide, by decide⟩ [0, 1, 2, 3, 4, 5] (by decide) (wc := [(sc, .inr (5, [.ref tx, .ref b, .ref so, .ref pr, .ref b2])), (b, .inr (0, [.ref t, .int (iI u2.2.1), .int (iI bd), .int (iI cm), .long (jL sk)])), (t, .inr (3, [.ref va, .ref re, .ref su, .int (iI u2.2.2.1), .int (iI u2.2.2.2.1)])), (va, .inl (g_I (x_G X), 631, .inl (aI u2.2.2.2.2.1))), (re, .inl (g_I (x_G X), 2524, .inl (aI u2.2.2.2.2.2.1))), (su, .inl (g_J (x_G X), 631, .inr (.inl (aL u2.2.2.2.2.2.2))))]) rfl [] rfl (Nat.le_of_ble_eq_true rfl) ⟨Nat.le_of_ble_eq_true rfl, Nat.le_of_ble_eq_true rfl⟩ dL_hangs_8 (fun u8 => [(sc, .inr (5, [.ref tx, .ref b, .ref so, .ref pr, .ref b2])), (b, .inr (0, [.ref t, .int (iI u8.2.1), .int (iI bd), .int (iI cm), .long (jL sk)])), (t, .inr (3, [.ref va, .ref re, .ref su, .int (iI u8.2.2.1), .int (iI u8.2.2.2.1)])), (va, .inl (g_I (x_G X), 631, .inl (aI u8.2.2.2.2.1))), (re, .inl (g_I (x_G X), 2524, .inl (aI u8.2.2.2.2.2.1))), (su, .inl (g_J (x_G X), 631, .inr (.inl (aL u8.2.2.2.2.2.2))))]) (Or.inr ⟨[], [0, 1, 2, 3, 4, 5], [], rfl, by decide, by decide, by decide, fun _ => rfl⟩) (fun u8 => [.int (iI u8.1)]) (fun _ => rfl) 0 0 ⟨rfl, rfl⟩ (fun u8 hu8 => ?_)
  obtain ⟨-, a8, bt8⟩ := hu8
  have f8 := a8.trans (ab_1 n k m)
  have g8 := SZ_pos s4
  have g8b := SZ_631 s5
  refine k_istore_n C (lo' := [(2, .int (iI u8.1)), (1, .int (iI u2.1)), (0, .ref sc)]) dL_hangs_11 rfl (by decide) rfl ?_
  refine k_iload_n C 1 rfl dL_hangs_12 rfl ?_
  refine k_iconst C dL_hangs_13 ?_
  refine k_iadd C dL_hangs_14 ?_
  refine k_nmI (fun v14 e14 => ?_)
  refine k_istore_n C (lo' := [(3, .int (iI v14)), (2, .int (iI u8.1)), (1, .int (iI u2.1)), (0, .ref sc)]) dL_hangs_15 rfl (by decide) rfl ?_
  refine k_iload_n C 2 rfl dL_hangs_16 rfl ?_
  refine k_iconst C dL_hangs_17 ?_
  refine k_iadd C dL_hangs_18 ?_
  refine k_nmI (fun v18 e18 => ?_)
  refine k_istore C (lo' := [(4, .int (iI v18)), (3, .int (iI v14)), (2, .int (iI u8.1)), (1, .int (iI u2.1)), (0, .ref sc)]) dL_hangs_19 (by decide) rfl ?_
  refine k_aload_n C 4 rfl dL_hangs_21 rfl ?_
  refine k_iconst C dL_hangs_22 ?_
  refine k_callSW C (y := yL_quotient) [.ref sc, .int (iI 0)] 2 rfl (o_L_quotient (x_l X) (x_G X) sc tx so pr b2 b t va re su u8.2.1 u8.2.2.1 u8.2.2.2.1 bd cm sk n k m u8.2.2.2.2.1 u8.2.2.2.2.2.1 u8.2.2.2.2.2.2 0 (by first | assumption | omega) (by first | assumption | omega) (by first | assumption | omega) (by first | assumption | omega)) gL_hangs_L_quotient rfl ⟨by decide +kernel, by decide +kernel, by decide +kernel⟩ ⟨by decide, by decide⟩ [0, 1, 2, 3, 4, 5] (by decide) (wc := [(sc, .inr (5, [.ref tx, .ref b, .ref so, .ref pr, .ref b2])), (b, .inr (0, [.ref t, .int (iI u8.2.1), .int (iI bd), .int (iI cm), .long (jL sk)])), (t, .inr (3, [.ref va, .ref re, .ref su, .int (iI u8.2.2.1), .int (iI u8.2.2.2.1)])), (va, .inl (g_I (x_G X), 631, .inl (aI u8.2.2.2.2.1))), (re, .inl (g_I (x_G X), 2524, .inl (aI u8.2.2.2.2.2.1))), (su, .inl (g_J (x_G X), 631, .inr (.inl (aL u8.2.2.2.2.2.2))))]) rfl [] rfl (Nat.le_of_ble_eq_true rfl) ⟨Nat.le_of_ble_eq_true rfl, Nat.le_of_ble_eq_true rfl⟩ dL_hangs_23 (fun u23 => [(sc, .inr (5, [.ref tx, .ref b, .ref so, .ref pr, .ref b2])), (b, .inr (0, [.ref t, .int (iI u23.2.1), .int (iI bd), .int (iI cm), .long (jL sk)])), (t, .inr (3, [.ref va, .ref re, .ref su, .int (iI u23.2.2.1), .int (iI u23.2.2.2.1)])), (va, .inl (g_I (x_G X), 631, .inl (aI u23.2.2.2.2.1))), (re, .inl (g_I (x_G X), 2524, .inl (aI u23.2.2.2.2.2.1))), (su, .inl (g_J (x_G X), 631, .inr (.inl (aL u23.2.2.2.2.2.2))))]) (Or.inr ⟨[], [0, 1, 2, 3, 4, 5], [], rfl, by decide, by decide, by decide, fun _ => rfl⟩) (fun u23 => [.int (iI u23.1)]) (fun _ => rfl) 0 0 ⟨rfl, rfl⟩ (fun u23 hu23 => ?_)
  obtain ⟨-, a23, bt23⟩ := hu23
  have f23 : u23.1 = (n : Int) := by rw [a23, qvI_0 s4]
  refine k_iload_n C 3 rfl dL_hangs_26 rfl ?_
  refine k_icmp_ne C 111 (⟨by omega, by omega⟩) (⟨by omega, by omega⟩) dL_hangs_27 (by decide) (fun c27 => ?_) (fun c27 => ?_)
  · exfalso; omega
  · skip
    refine k_aload_n C 4 rfl dL_hangs_30 rfl ?_
    refine k_iload_n C 2 rfl dL_hangs_31 rfl ?_
    refine k_callSW C (y := yL_quotient) [.ref sc, .int (iI u8.1)] 2 rfl (t_L_quotient (x_l X) (x_G X) sc tx so pr b2 b t va re su u23.2.1 u23.2.2.1 u23.2.2.2.1 bd cm sk n k m u23.2.2.2.2.1 u23.2.2.2.2.2.1 u23.2.2.2.2.2.2 u8.1 (by first | assumption | omega) (by first | assumption | omega) (by first | assumption | omega) (hfl)) gL_hangs_L_quotient rfl ⟨by decide +kernel, by decide +kernel, by decide +kernel⟩ ⟨by decide, by decide⟩ [0, 1, 2, 3, 4, 5] (by decide) (wc := [(sc, .inr (5, [.ref tx, .ref b, .ref so, .ref pr, .ref b2])), (b, .inr (0, [.ref t, .int (iI u23.2.1), .int (iI bd), .int (iI cm), .long (jL sk)])), (t, .inr (3, [.ref va, .ref re, .ref su, .int (iI u23.2.2.1), .int (iI u23.2.2.2.1)])), (va, .inl (g_I (x_G X), 631, .inl (aI u23.2.2.2.2.1))), (re, .inl (g_I (x_G X), 2524, .inl (aI u23.2.2.2.2.2.1))), (su, .inl (g_J (x_G X), 631, .inr (.inl (aL u23.2.2.2.2.2.2))))]) rfl [] rfl (Nat.le_of_ble_eq_true rfl) ⟨Nat.le_of_ble_eq_true rfl, Nat.le_of_ble_eq_true rfl⟩ dL_hangs_32 (fun u32 => [(sc, .inr (5, [.ref tx, .ref b, .ref so, .ref pr, .ref b2])), (b, .inr (0, [.ref t, .int (iI u32.2.1), .int (iI bd), .int (iI cm), .long (jL sk)])), (t, .inr (3, [.ref va, .ref re, .ref su, .int (iI u32.2.2.1), .int (iI u32.2.2.2.1)])), (va, .inl (g_I (x_G X), 631, .inl (aI u32.2.2.2.2.1))), (re, .inl (g_I (x_G X), 2524, .inl (aI u32.2.2.2.2.2.1))), (su, .inl (g_J (x_G X), 631, .inr (.inl (aL u32.2.2.2.2.2.2))))]) (Or.inr ⟨[], [0, 1, 2, 3, 4, 5], [], rfl, by decide, by decide, by decide, fun _ => rfl⟩) (fun u32 => [.int (iI u32.1)]) (fun _ => rfl) 1 6 ⟨rfl, rfl⟩ (fun u32 hu32 => ?_)
    obtain ⟨a32, bt32⟩ := hu32
    refine k_ldc C (-2000001) 1 rfl (by decide) dL_hangs_35 ?_
    refine k_icmp_ne C 111 (⟨by omega, by omega⟩) (⟨by omega, by omega⟩) dL_hangs_37 (by decide) (fun c37 => ?_) (fun c37 => ?_)
    · exfalso; omega
    · skip
      refine k_aload_n C 4 rfl dL_hangs_40 rfl ?_
      refine k_iload_n C 2 rfl dL_hangs_41 rfl ?_
      refine k_iconst C dL_hangs_42 ?_
      refine k_isub C dL_hangs_43 ?_
      refine k_nmI (fun v43 e43 => ?_)
      refine k_callSW C (y := yL_quotient) [.ref sc, .int (iI v43)] 2 rfl (o_L_quotient (x_l X) (x_G X) sc tx so pr b2 b t va re su u32.2.1 u32.2.2.1 u32.2.2.2.1 bd cm sk n k m u32.2.2.2.2.1 u32.2.2.2.2.2.1 u32.2.2.2.2.2.2 v43 (by first | assumption | omega) (by first | assumption | omega) (by first | assumption | omega) (by first | assumption | omega)) gL_hangs_L_quotient rfl ⟨by decide +kernel, by decide +kernel, by decide +kernel⟩ ⟨by decide, by decide⟩ [0, 1, 2, 3, 4, 5] (by decide) (wc := [(sc, .inr (5, [.ref tx, .ref b, .ref so, .ref pr, .ref b2])), (b, .inr (0, [.ref t, .int (iI u32.2.1), .int (iI bd), .int (iI cm), .long (jL sk)])), (t, .inr (3, [.ref va, .ref re, .ref su, .int (iI u32.2.2.1), .int (iI u32.2.2.2.1)])), (va, .inl (g_I (x_G X), 631, .inl (aI u32.2.2.2.2.1))), (re, .inl (g_I (x_G X), 2524, .inl (aI u32.2.2.2.2.2.1))), (su, .inl (g_J (x_G X), 631, .inr (.inl (aL u32.2.2.2.2.2.2))))]) rfl [] rfl (Nat.le_of_ble_eq_true rfl) ⟨Nat.le_of_ble_eq_true rfl, Nat.le_of_ble_eq_true rfl⟩ dL_hangs_44 (fun u44 => [(sc, .inr (5, [.ref tx, .ref b, .ref so, .ref pr, .ref b2])), (b, .inr (0, [.ref t, .int (iI u44.2.1), .int (iI bd), .int (iI cm), .long (jL sk)])), (t, .inr (3, [.ref va, .ref re, .ref su, .int (iI u44.2.2.1), .int (iI u44.2.2.2.1)])), (va, .inl (g_I (x_G X), 631, .inl (aI u44.2.2.2.2.1))), (re, .inl (g_I (x_G X), 2524, .inl (aI u44.2.2.2.2.2.1))), (su, .inl (g_J (x_G X), 631, .inr (.inl (aL u44.2.2.2.2.2.2))))]) (Or.inr ⟨[], [0, 1, 2, 3, 4, 5], [], rfl, by decide, by decide, by decide, fun _ => rfl⟩) (fun u44 => [.int (iI u44.1)]) (fun _ => rfl) 1 6 ⟨rfl, rfl⟩ (fun u44 hu44 => ?_)
      obtain ⟨-, a44, bt44⟩ := hu44
      have f44 : u44.1 = 1 := by rw [a44, qvI_last s4 (by omega)]; rfl
      refine k_iconst C dL_hangs_47 ?_
      refine k_icmp_ne C 111 (⟨by omega, by omega⟩) (⟨by omega, by omega⟩) dL_hangs_48 (by decide) (fun c48 => ?_) (fun c48 => ?_)
      · exfalso; omega
      · skip
        refine k_aload_n C 4 rfl dL_hangs_51 rfl ?_
        refine k_iconst C dL_hangs_52 ?_
        refine k_callSW C (y := yL_left) [.ref sc, .int (iI 0)] 2 rfl (o_L_left (x_l X) (x_G X) sc tx so pr b2 b t va re su u44.2.1 u44.2.2.1 u44.2.2.2.1 bd cm sk n k m u44.2.2.2.2.1 u44.2.2.2.2.2.1 u44.2.2.2.2.2.2 0 (by first | assumption | omega) (by first | assumption | omega) (by first | assumption | omega) (by first | assumption | omega)) gL_hangs_L_left rfl ⟨by decide +kernel, by decide +kernel, by decide +kernel⟩ ⟨by decide, by decide⟩ [0, 1, 2, 3, 4, 5] (by decide) (wc := [(sc, .inr (5, [.ref tx, .ref b, .ref so, .ref pr, .ref b2])), (b, .inr (0, [.ref t, .int (iI u44.2.1), .int (iI bd), .int (iI cm), .long (jL sk)])), (t, .inr (3, [.ref va, .ref re, .ref su, .int (iI u44.2.2.1), .int (iI u44.2.2.2.1)])), (va, .inl (g_I (x_G X), 631, .inl (aI u44.2.2.2.2.1))), (re, .inl (g_I (x_G X), 2524, .inl (aI u44.2.2.2.2.2.1))), (su, .inl (g_J (x_G X), 631, .inr (.inl (aL u44.2.2.2.2.2.2))))]) rfl [] rfl (Nat.le_of_ble_eq_true rfl) ⟨Nat.le_of_ble_eq_true rfl, Nat.le_of_ble_eq_true rfl⟩ dL_hangs_53 (fun u53 => [(sc, .inr (5, [.ref tx, .ref b, .ref so, .ref pr, .ref b2])), (b, .inr (0, [.ref t, .int (iI u53.2.1), .int (iI bd), .int (iI cm), .long (jL sk)])), (t, .inr (3, [.ref va, .ref re, .ref su, .int (iI u53.2.2.1), .int (iI u53.2.2.2.1)])), (va, .inl (g_I (x_G X), 631, .inl (aI u53.2.2.2.2.1))), (re, .inl (g_I (x_G X), 2524, .inl (aI u53.2.2.2.2.2.1))), (su, .inl (g_J (x_G X), 631, .inr (.inl (aL u53.2.2.2.2.2.2))))]) (Or.inr ⟨[], [0, 1, 2, 3, 4, 5], [], rfl, by decide, by decide, by decide, fun _ => rfl⟩) (fun u53 => [.int (iI u53.1)]) (fun _ => rfl) 1 6 ⟨rfl, rfl⟩ (fun u53 hu53 => ?_)
        obtain ⟨-, a53, bt53⟩ := hu53
        have f53 : u53.1 = (cA m k n : Int) := by rw [a53, qvI_0 s4]
        refine k_aload_n C 4 rfl dL_hangs_56 rfl ?_
        refine k_iconst C dL_hangs_57 ?_
        refine k_callSW C (y := yL_about) [.ref sc, .int (iI 4)] 2 rfl (o_L_about (x_l X) (x_G X) sc tx so pr b2 b t va re su u53.2.1 u53.2.2.1 u53.2.2.2.1 bd cm sk n k m u53.2.2.2.2.1 u53.2.2.2.2.2.1 u53.2.2.2.2.2.2 4 (by first | assumption | omega) (by first | assumption | omega) (by first | assumption | omega) (by first | assumption | omega)) gL_hangs_L_about rfl ⟨by decide +kernel, by decide +kernel, by decide +kernel⟩ ⟨by decide, by decide⟩ [0, 1, 2, 3, 4, 5] (by decide) (wc := [(sc, .inr (5, [.ref tx, .ref b, .ref so, .ref pr, .ref b2])), (b, .inr (0, [.ref t, .int (iI u53.2.1), .int (iI bd), .int (iI cm), .long (jL sk)])), (t, .inr (3, [.ref va, .ref re, .ref su, .int (iI u53.2.2.1), .int (iI u53.2.2.2.1)])), (va, .inl (g_I (x_G X), 631, .inl (aI u53.2.2.2.2.1))), (re, .inl (g_I (x_G X), 2524, .inl (aI u53.2.2.2.2.2.1))), (su, .inl (g_J (x_G X), 631, .inr (.inl (aL u53.2.2.2.2.2.2))))]) rfl [.int (iI u53.1)] rfl (Nat.le_of_ble_eq_true rfl) ⟨Nat.le_of_ble_eq_true rfl, Nat.le_of_ble_eq_true rfl⟩ dL_hangs_58 (fun u58 => [(sc, .inr (5, [.ref tx, .ref b, .ref so, .ref pr, .ref b2])), (b, .inr (0, [.ref t, .int (iI u58.2.1), .int (iI bd), .int (iI cm), .long (jL sk)])), (t, .inr (3, [.ref va, .ref re, .ref su, .int (iI u58.2.2.1), .int (iI u58.2.2.2.1)])), (va, .inl (g_I (x_G X), 631, .inl (aI u58.2.2.2.2.1))), (re, .inl (g_I (x_G X), 2524, .inl (aI u58.2.2.2.2.2.1))), (su, .inl (g_J (x_G X), 631, .inr (.inl (aL u58.2.2.2.2.2.2))))]) (Or.inr ⟨[], [0, 1, 2, 3, 4, 5], [], rfl, by decide, by decide, by decide, fun _ => rfl⟩) (fun u58 => [.int (iI u58.1), .int (iI u53.1)]) (fun _ => rfl) 1 6 ⟨rfl, rfl⟩ (fun u58 hu58 => ?_)
        obtain ⟨-, a58, bt58⟩ := hu58
        have f58 := a58.trans (ab_4 n k m)
        have g58 := cA_le m k n
        refine k_icmp_ne C 111 (⟨by omega, by omega⟩) (⟨by omega, by omega⟩) dL_hangs_61 (by decide) (fun c61 => ?_) (fun c61 => ?_)
        · exfalso; omega
        · skip
          refine k_aload_n C 4 rfl dL_hangs_64 rfl ?_
          refine k_iload_n C 2 rfl dL_hangs_65 rfl ?_
          refine k_iconst C dL_hangs_66 ?_
          refine k_isub C dL_hangs_67 ?_
          refine k_nmI (fun v67 e67 => ?_)
          refine k_callSW C (y := yL_left) [.ref sc, .int (iI v67)] 2 rfl (o_L_left (x_l X) (x_G X) sc tx so pr b2 b t va re su u58.2.1 u58.2.2.1 u58.2.2.2.1 bd cm sk n k m u58.2.2.2.2.1 u58.2.2.2.2.2.1 u58.2.2.2.2.2.2 v67 (by first | assumption | omega) (by first | assumption | omega) (by first | assumption | omega) (by first | assumption | omega)) gL_hangs_L_left rfl ⟨by decide +kernel, by decide +kernel, by decide +kernel⟩ ⟨by decide, by decide⟩ [0, 1, 2, 3, 4, 5] (by decide) (wc := [(sc, .inr (5, [.ref tx, .ref b, .ref so, .ref pr, .ref b2])), (b, .inr (0, [.ref t, .int (iI u58.2.1), .int (iI bd), .int (iI cm), .long (jL sk)])), (t, .inr (3, [.ref va, .ref re, .ref su, .int (iI u58.2.2.1), .int (iI u58.2.2.2.1)])), (va, .inl (g_I (x_G X), 631, .inl (aI u58.2.2.2.2.1))), (re, .inl (g_I (x_G X), 2524, .inl (aI u58.2.2.2.2.2.1))), (su, .inl (g_J (x_G X), 631, .inr (.inl (aL u58.2.2.2.2.2.2))))]) rfl [] rfl (Nat.le_of_ble_eq_true rfl) ⟨Nat.le_of_ble_eq_true rfl, Nat.le_of_ble_eq_true rfl⟩ dL_hangs_68 (fun u68 => [(sc, .inr (5, [.ref tx, .ref b, .ref so, .ref pr, .ref b2])), (b, .inr (0, [.ref t, .int (iI u68.2.1), .int (iI bd), .int (iI cm), .long (jL sk)])), (t, .inr (3, [.ref va, .ref re, .ref su, .int (iI u68.2.2.1), .int (iI u68.2.2.2.1)])), (va, .inl (g_I (x_G X), 631, .inl (aI u68.2.2.2.2.1))), (re, .inl (g_I (x_G X), 2524, .inl (aI u68.2.2.2.2.2.1))), (su, .inl (g_J (x_G X), 631, .inr (.inl (aL u68.2.2.2.2.2.2))))]) (Or.inr ⟨[], [0, 1, 2, 3, 4, 5], [], rfl, by decide, by decide, by decide, fun _ => rfl⟩) (fun u68 => [.int (iI u68.1)]) (fun _ => rfl) 1 6 ⟨rfl, rfl⟩ (fun u68 hu68 => ?_)
          obtain ⟨-, a68, bt68⟩ := hu68
          have f68 : u68.1 = 1 := by rw [a68, qvI_last s4 (by omega), cA_1 (by omega)]; rfl
          refine k_iconst C dL_hangs_71 ?_
          refine k_icmp_ne C 111 (⟨by omega, by omega⟩) (⟨by omega, by omega⟩) dL_hangs_72 (by decide) (fun c72 => ?_) (fun c72 => ?_)
          · exfalso; omega
          · skip
            refine k_aload_n C 4 rfl dL_hangs_75 rfl ?_
            refine k_iload_n C 2 rfl dL_hangs_76 rfl ?_
            refine k_iconst C dL_hangs_77 ?_
            refine k_isub C dL_hangs_78 ?_
            refine k_nmI (fun v78 e78 => ?_)
            refine k_callSW C (y := yL_sumLeft) [.ref sc, .int (iI v78)] 2 rfl (o_L_sumLeft (x_l X) (x_G X) sc tx so pr b2 b t va re su u68.2.1 u68.2.2.1 u68.2.2.2.1 bd cm sk n k m u68.2.2.2.2.1 u68.2.2.2.2.2.1 u68.2.2.2.2.2.2 v78 (by first | assumption | omega) (by first | assumption | omega) (by first | assumption | omega) (by first | assumption | omega)) gL_hangs_L_sumLeft rfl ⟨by decide +kernel, by decide +kernel, by decide +kernel⟩ ⟨by decide, by decide⟩ [0, 1, 2, 3, 4, 5] (by decide) (wc := [(sc, .inr (5, [.ref tx, .ref b, .ref so, .ref pr, .ref b2])), (b, .inr (0, [.ref t, .int (iI u68.2.1), .int (iI bd), .int (iI cm), .long (jL sk)])), (t, .inr (3, [.ref va, .ref re, .ref su, .int (iI u68.2.2.1), .int (iI u68.2.2.2.1)])), (va, .inl (g_I (x_G X), 631, .inl (aI u68.2.2.2.2.1))), (re, .inl (g_I (x_G X), 2524, .inl (aI u68.2.2.2.2.2.1))), (su, .inl (g_J (x_G X), 631, .inr (.inl (aL u68.2.2.2.2.2.2))))]) rfl [] rfl (Nat.le_of_ble_eq_true rfl) ⟨Nat.le_of_ble_eq_true rfl, Nat.le_of_ble_eq_true rfl⟩ dL_hangs_79 (fun u79 => [(sc, .inr (5, [.ref tx, .ref b, .ref so, .ref pr, .ref b2])), (b, .inr (0, [.ref t, .int (iI u79.2.1), .int (iI bd), .int (iI cm), .long (jL sk)])), (t, .inr (3, [.ref va, .ref re, .ref su, .int (iI u79.2.2.1), .int (iI u79.2.2.2.1)])), (va, .inl (g_I (x_G X), 631, .inl (aI u79.2.2.2.2.1))), (re, .inl (g_I (x_G X), 2524, .inl (aI u79.2.2.2.2.2.1))), (su, .inl (g_J (x_G X), 631, .inr (.inl (aL u79.2.2.2.2.2.2))))]) (Or.inr ⟨[], [0, 1, 2, 3, 4, 5], [], rfl, by decide, by decide, by decide, fun _ => rfl⟩) (fun u79 => [.long (jL u79.1)]) (fun _ => rfl) 1 6 ⟨rfl, rfl⟩ (fun u79 hu79 => ?_)
            obtain ⟨-, a79, bt79⟩ := hu79
            have f79 : u79.1 = 1 := by rw [a79, qvI_last s4 (by omega), sR_1 (by omega)]; rfl
            refine k_lconst C dL_hangs_82 1 (by decide) ?_
            refine k_lcmp C (⟨by omega, by omega⟩) (⟨by omega, by omega⟩) dL_hangs_83 (fun v83 e83 b83 => ?_)
            clear e83
            refine k_if_ne C 111 (⟨by omega, by omega⟩) dL_hangs_84 (by decide) (fun c84 => ?_) (fun c84 => ?_)
            · exfalso; omega
            · skip
              refine k_aload_n C 4 rfl dL_hangs_87 rfl ?_
              refine k_iconst C dL_hangs_88 ?_
              refine k_callV C (y := yX6_quotientOf) [.int (iI 0)] 1 rfl (c_X6_quotientOf (x_l X) (x_G X) sc tx so pr b2 b t va re su u79.2.1 u79.2.2.1 u79.2.2.2.1 bd cm sk n k m u79.2.2.2.2.1 u79.2.2.2.2.2.1 u79.2.2.2.2.2.2 0 (by first | assumption | omega) (by first | assumption | omega) (by first | assumption | omega)) gL_hangs_X6_quotientOf rfl ⟨rfl, by decide +kernel, by decide +kernel, by decide +kernel⟩ ⟨by decide, by decide⟩ 0 (fs := [.ref tx, .ref b, .ref so, .ref pr, .ref b2]) rfl rfl rfl [0, 1, 2, 3, 4, 5] (by decide) (wc := [(sc, .inr (5, [.ref tx, .ref b, .ref so, .ref pr, .ref b2])), (b, .inr (0, [.ref t, .int (iI u79.2.1), .int (iI bd), .int (iI cm), .long (jL sk)])), (t, .inr (3, [.ref va, .ref re, .ref su, .int (iI u79.2.2.1), .int (iI u79.2.2.2.1)])), (va, .inl (g_I (x_G X), 631, .inl (aI u79.2.2.2.2.1))), (re, .inl (g_I (x_G X), 2524, .inl (aI u79.2.2.2.2.2.1))), (su, .inl (g_J (x_G X), 631, .inr (.inl (aL u79.2.2.2.2.2.2))))]) rfl [] rfl (Nat.le_of_ble_eq_true rfl) ⟨Nat.le_of_ble_eq_true rfl, Nat.le_of_ble_eq_true rfl⟩ dL_hangs_89 (fun u89 => [(sc, .inr (5, [.ref tx, .ref b, .ref so, .ref pr, .ref b2])), (b, .inr (0, [.ref t, .int (iI u89.2.1), .int (iI bd), .int (iI cm), .long (jL sk)])), (t, .inr (3, [.ref va, .ref re, .ref su, .int (iI u89.2.2.1), .int (iI u89.2.2.2.1)])), (va, .inl (g_I (x_G X), 631, .inl (aI u89.2.2.2.2.1))), (re, .inl (g_I (x_G X), 2524, .inl (aI u89.2.2.2.2.2.1))), (su, .inl (g_J (x_G X), 631, .inr (.inl (aL u89.2.2.2.2.2.2))))]) (Or.inr ⟨[], [0, 1, 2, 3, 4, 5], [], rfl, by decide, by decide, by decide, fun _ => rfl⟩) (fun u89 => [.int (iI u89.1)]) (fun _ => rfl) 1 6 ⟨rfl, rfl⟩ (fun u89 hu89 => ?_)
              obtain ⟨a89, bt89⟩ := hu89
              have f89 : u89.1 = -1 := by rw [a89]; exact pI_lo (by omega)
              refine k_iconst C dL_hangs_92 ?_
              refine k_icmp_ne C 111 (⟨by omega, by omega⟩) (⟨by omega, by omega⟩) dL_hangs_93 (by decide) (fun c93 => ?_) (fun c93 => ?_)
              · exfalso; omega
              · skip
                refine k_aload_n C 4 rfl dL_hangs_96 rfl ?_
                refine k_iload_n C 3 rfl dL_hangs_97 rfl ?_
                refine k_iconst C dL_hangs_98 ?_
                refine k_iadd C dL_hangs_99 ?_
                refine k_nmI (fun v99 e99 => ?_)
                refine k_callV C (y := yX6_quotientOf) [.int (iI v99)] 1 rfl (c_X6_quotientOf (x_l X) (x_G X) sc tx so pr b2 b t va re su u89.2.1 u89.2.2.1 u89.2.2.2.1 bd cm sk n k m u89.2.2.2.2.1 u89.2.2.2.2.2.1 u89.2.2.2.2.2.2 v99 (by first | assumption | omega) (by first | assumption | omega) (by first | assumption | omega)) gL_hangs_X6_quotientOf rfl ⟨rfl, by decide +kernel, by decide +kernel, by decide +kernel⟩ ⟨by decide, by decide⟩ 0 (fs := [.ref tx, .ref b, .ref so, .ref pr, .ref b2]) rfl rfl rfl [0, 1, 2, 3, 4, 5] (by decide) (wc := [(sc, .inr (5, [.ref tx, .ref b, .ref so, .ref pr, .ref b2])), (b, .inr (0, [.ref t, .int (iI u89.2.1), .int (iI bd), .int (iI cm), .long (jL sk)])), (t, .inr (3, [.ref va, .ref re, .ref su, .int (iI u89.2.2.1), .int (iI u89.2.2.2.1)])), (va, .inl (g_I (x_G X), 631, .inl (aI u89.2.2.2.2.1))), (re, .inl (g_I (x_G X), 2524, .inl (aI u89.2.2.2.2.2.1))), (su, .inl (g_J (x_G X), 631, .inr (.inl (aL u89.2.2.2.2.2.2))))]) rfl [] rfl (Nat.le_of_ble_eq_true rfl) ⟨Nat.le_of_ble_eq_true rfl, Nat.le_of_ble_eq_true rfl⟩ dL_hangs_100 (fun u100 => [(sc, .inr (5, [.ref tx, .ref b, .ref so, .ref pr, .ref b2])), (b, .inr (0, [.ref t, .int (iI u100.2.1), .int (iI bd), .int (iI cm), .long (jL sk)])), (t, .inr (3, [.ref va, .ref re, .ref su, .int (iI u100.2.2.1), .int (iI u100.2.2.2.1)])), (va, .inl (g_I (x_G X), 631, .inl (aI u100.2.2.2.2.1))), (re, .inl (g_I (x_G X), 2524, .inl (aI u100.2.2.2.2.2.1))), (su, .inl (g_J (x_G X), 631, .inr (.inl (aL u100.2.2.2.2.2.2))))]) (Or.inr ⟨[], [0, 1, 2, 3, 4, 5], [], rfl, by decide, by decide, by decide, fun _ => rfl⟩) (fun u100 => [.int (iI u100.1)]) (fun _ => rfl) 1 6 ⟨rfl, rfl⟩ (fun u100 hu100 => ?_)
                obtain ⟨a100, bt100⟩ := hu100
                have f100 : u100.1 = -1 := by rw [a100]; exact pI_hi (by omega)
                refine k_iconst C dL_hangs_103 ?_
                refine k_icmp_ne C 111 (⟨by omega, by omega⟩) (⟨by omega, by omega⟩) dL_hangs_104 (by decide) (fun c104 => ?_) (fun c104 => ?_)
                · exfalso; omega
                · skip
                  refine k_iconst C dL_hangs_107 ?_
                  refine k_goto C 112 dL_hangs_108 (by decide) ?_
                  refine k_istore C (lo' := [(5, .int (iI 1)), (4, .int (iI v18)), (3, .int (iI v14)), (2, .int (iI u8.1)), (1, .int (iI u2.1)), (0, .ref sc)]) dL_hangs_112 (by decide) rfl ?_
                  refine k_iconst C dL_hangs_114 ?_
                  refine k_istore C (lo' := [(6, .int (iI 0)), (5, .int (iI 1)), (4, .int (iI v18)), (3, .int (iI v14)), (2, .int (iI u8.1)), (1, .int (iI u2.1)), (0, .ref sc)]) dL_hangs_115 (by decide) rfl ?_
                  have L117 : ∀ (nf : Nat) (q : Int) (be : Int) (ah : Int) (tl1 : Int) (tb1 : Int) (ts1 : Int) (fv1 : Nat → Int) (fr1 : Nat → Int) (fs1 : Nat → Int), ((0 ≤ q ∧ q ≤ (SZ n : Int)) ∧ (0 ≤ be ∧ be ≤ 100000) ∧ (0 ≤ ah ∧ ah ≤ 100000) ∧ (q < (SZ n : Int) → (qv n q.toNat : Int) < be ∧ (cA m k (qv n q.toNat) : Int) ≤ ah) ∧ BdT n k m tl1 tb1 ts1 fv1 fr1 fs1) → ((SZ n : Int) - q).toNat < nf → K_ X 1 6 [(sc, .inr (5, [.ref tx, .ref b, .ref so, .ref pr, .ref b2])), (b, .inr (0, [.ref t, .int (iI tl1), .int (iI bd), .int (iI cm), .long (jL sk)])), (t, .inr (3, [.ref va, .ref re, .ref su, .int (iI tb1), .int (iI ts1)])), (va, .inl (g_I (x_G X), 631, .inl (aI fv1))), (re, .inl (g_I (x_G X), 2524, .inl (aI fr1))), (su, .inl (g_J (x_G X), 631, .inr (.inl (aL fs1))))] 117 [(6, .int (iI q)), (5, .int (iI 1)), (4, .int (iI ah)), (3, .int (iI be)), (2, .int (iI u8.1)), (1, .int (iI u2.1)), (0, .ref sc)] [] := by
                    intro nf
                    induction nf with
                    | zero => intro q be ah tl1 tb1 ts1 fv1 fr1 fs1 hI hm; exact absurd hm (Nat.not_lt_zero _)
                    | succ nf ih117 =>
                      intro q be ah tl1 tb1 ts1 fv1 fr1 fs1 hI117 hm117
                      obtain ⟨i1, i2, i3, i4, i5⟩ := hI117
                      refine k_iload C 0 rfl dL_hangs_117 ?_
                      refine k_iload_n C 4 rfl dL_hangs_119 rfl ?_
                      refine k_icmp_ge C 298 (⟨by omega, by omega⟩) (⟨by omega, by omega⟩) dL_hangs_120 (by decide) (fun c120 => ?_) (fun c120 => ?_)
                      · skip
                        refine k_iconst C dL_hangs_298 ?_
                        refine k_istore C (lo' := [(6, .int (iI 0)), (5, .int (iI 1)), (4, .int (iI ah)), (3, .int (iI be)), (2, .int (iI u8.1)), (1, .int (iI u2.1)), (0, .ref sc)]) dL_hangs_299 (by decide) rfl ?_
                        refine k_iconst C dL_hangs_301 ?_
                        refine k_istore C (lo' := [(7, .int (iI 0)), (6, .int (iI 0)), (5, .int (iI 1)), (4, .int (iI ah)), (3, .int (iI be)), (2, .int (iI u8.1)), (1, .int (iI u2.1)), (0, .ref sc)]) dL_hangs_302 (by decide) rfl ?_
                        refine k_iconst C dL_hangs_304 ?_
                        refine k_istore C (lo' := [(8, .int (iI (-1))), (7, .int (iI 0)), (6, .int (iI 0)), (5, .int (iI 1)), (4, .int (iI ah)), (3, .int (iI be)), (2, .int (iI u8.1)), (1, .int (iI u2.1)), (0, .ref sc)]) dL_hangs_305 (by decide) rfl ?_
                        refine k_iconst C dL_hangs_307 ?_
                        refine k_istore C (lo' := [(9, .int (iI 0)), (8, .int (iI (-1))), (7, .int (iI 0)), (6, .int (iI 0)), (5, .int (iI 1)), (4, .int (iI ah)), (3, .int (iI be)), (2, .int (iI u8.1)), (1, .int (iI u2.1)), (0, .ref sc)]) dL_hangs_308 (by decide) rfl ?_
                        have L310 : ∀ (nf : Nat) (j : Int) (st : Int) (sp1 : Int) (la : Int), ((0 ≤ j ∧ j ≤ (k : Int)) ∧ st = (ce (fun b => m.testBit b) j.toNat : Int) ∧ sp1 = j - st ∧ la = pA (j - 1)) → ((k : Int) - j).toNat < nf → K_ X 1 6 [(sc, .inr (5, [.ref tx, .ref b, .ref so, .ref pr, .ref b2])), (b, .inr (0, [.ref t, .int (iI tl1), .int (iI bd), .int (iI cm), .long (jL sk)])), (t, .inr (3, [.ref va, .ref re, .ref su, .int (iI tb1), .int (iI ts1)])), (va, .inl (g_I (x_G X), 631, .inl (aI fv1))), (re, .inl (g_I (x_G X), 2524, .inl (aI fr1))), (su, .inl (g_J (x_G X), 631, .inr (.inl (aL fs1))))] 310 [(9, .int (iI j)), (8, .int (iI la)), (7, .int (iI sp1)), (6, .int (iI st)), (5, .int (iI 1)), (4, .int (iI ah)), (3, .int (iI be)), (2, .int (iI u8.1)), (1, .int (iI u2.1)), (0, .ref sc)] [] := by
                          intro nf
                          induction nf with
                          | zero => intro j st sp1 la hI hm; exact absurd hm (Nat.not_lt_zero _)
                          | succ nf ih310 =>
                            intro j st sp1 la hI310 hm310
                            obtain ⟨j1, j2, j3, j4⟩ := hI310
                            have j5 := pA_rng (j - 1)
                            refine k_aload_n C 9 rfl dL_hangs_310 rfl ?_
                            refine k_iload C 0 rfl dL_hangs_311 ?_
                            refine k_callSW C (y := yL_came) [.ref sc, .int (iI j)] 2 rfl (o_L_came (x_l X) (x_G X) sc tx so pr b2 b t tl1 bd cm sk j n k m (by first | assumption | omega) (by first | assumption | omega) (by first | assumption | omega)) gL_hangs_L_came rfl ⟨by decide +kernel, by decide +kernel, by decide +kernel⟩ ⟨by decide, by decide⟩ [0, 1] (by decide) (wc := [(sc, .inr (5, [.ref tx, .ref b, .ref so, .ref pr, .ref b2])), (b, .inr (0, [.ref t, .int (iI tl1), .int (iI bd), .int (iI cm), .long (jL sk)]))]) rfl [] rfl (Nat.le_of_ble_eq_true rfl) ⟨Nat.le_of_ble_eq_true rfl, Nat.le_of_ble_eq_true rfl⟩ dL_hangs_313 (fun _ => [(sc, .inr (5, [.ref tx, .ref b, .ref so, .ref pr, .ref b2])), (b, .inr (0, [.ref t, .int (iI tl1), .int (iI bd), .int (iI cm), .long (jL sk)])), (t, .inr (3, [.ref va, .ref re, .ref su, .int (iI tb1), .int (iI ts1)])), (va, .inl (g_I (x_G X), 631, .inl (aI fv1))), (re, .inl (g_I (x_G X), 2524, .inl (aI fr1))), (su, .inl (g_J (x_G X), 631, .inr (.inl (aL fs1))))]) (Or.inl (fun _ => ⟨rfl, rfl⟩)) (fun u313 => [.int (iI u313)]) (fun _ => rfl) 1 6 ⟨rfl, rfl⟩ (fun u313 hu313 => ?_)
                            obtain ⟨-, a313⟩ := hu313
                            have g313 := cm_rng k m j
                            refine k_if_eq C 408 (⟨by omega, by omega⟩) dL_hangs_316 (by decide) (fun c316 => ?_) (fun c316 => ?_)
                            · skip
                              have k316 : ¬ j < (k : Int) := fun z => by rcases cm_in (m := m) j1.1 z s6 with y | y <;> have := pA_2 (j := j) (by omega) <;> omega
                              have k317 : j.toNat = k := by omega
                              have k318 : j = (k : Int) := by omega
                              rw [k317] at j2
                              rw [k318] at j4
                              refine k_iload C 4 rfl dL_hangs_408 ?_
                              refine k_if_eq C 476 (⟨by omega, by omega⟩) dL_hangs_410 (by decide) (fun c410 => ?_) (fun c410 => ?_)
                              · exfalso; omega
                              · skip
                                refine k_aload_n C 9 rfl dL_hangs_413 rfl ?_
                                refine k_iconst C dL_hangs_414 ?_
                                refine k_callSW C (y := yL_about) [.ref sc, .int (iI 2)] 2 rfl (o_L_about (x_l X) (x_G X) sc tx so pr b2 b t va re su tl1 tb1 ts1 bd cm sk n k m fv1 fr1 fs1 2 (by first | assumption | omega) (by first | assumption | omega) (by first | assumption | omega) (by first | assumption | omega)) gL_hangs_L_about rfl ⟨by decide +kernel, by decide +kernel, by decide +kernel⟩ ⟨by decide, by decide⟩ [0, 1, 2, 3, 4, 5] (by decide) (wc := [(sc, .inr (5, [.ref tx, .ref b, .ref so, .ref pr, .ref b2])), (b, .inr (0, [.ref t, .int (iI tl1), .int (iI bd), .int (iI cm), .long (jL sk)])), (t, .inr (3, [.ref va, .ref re, .ref su, .int (iI tb1), .int (iI ts1)])), (va, .inl (g_I (x_G X), 631, .inl (aI fv1))), (re, .inl (g_I (x_G X), 2524, .inl (aI fr1))), (su, .inl (g_J (x_G X), 631, .inr (.inl (aL fs1))))]) rfl [] rfl (Nat.le_of_ble_eq_true rfl) ⟨Nat.le_of_ble_eq_true rfl, Nat.le_of_ble_eq_true rfl⟩ dL_hangs_415 (fun u415 => [(sc, .inr (5, [.ref tx, .ref b, .ref so, .ref pr, .ref b2])), (b, .inr (0, [.ref t, .int (iI u415.2.1), .int (iI bd), .int (iI cm), .long (jL sk)])), (t, .inr (3, [.ref va, .ref re, .ref su, .int (iI u415.2.2.1), .int (iI u415.2.2.2.1)])), (va, .inl (g_I (x_G X), 631, .inl (aI u415.2.2.2.2.1))), (re, .inl (g_I (x_G X), 2524, .inl (aI u415.2.2.2.2.2.1))), (su, .inl (g_J (x_G X), 631, .inr (.inl (aL u415.2.2.2.2.2.2))))]) (Or.inr ⟨[], [0, 1, 2, 3, 4, 5], [], rfl, by decide, by decide, by decide, fun _ => rfl⟩) (fun u415 => [.int (iI u415.1)]) (fun _ => rfl) 1 6 ⟨rfl, rfl⟩ (fun u415 hu415 => ?_)
                                obtain ⟨-, a415, bt415⟩ := hu415
                                have f415 := a415.trans (ab_2 n k m)
                                have h415 := ce_le (fun b => m.testBit b) k
                                have g415 := popc_ce s7 (show k ≤ 64 by omega)
                                refine k_iload C 3 rfl dL_hangs_418 ?_
                                refine k_icmp_ne C 476 (⟨by omega, by omega⟩) (⟨by omega, by omega⟩) dL_hangs_420 (by decide) (fun c420 => ?_) (fun c420 => ?_)
                                · exfalso; omega
                                · skip
                                  refine k_aload_n C 9 rfl dL_hangs_423 rfl ?_
                                  refine k_iconst C dL_hangs_424 ?_
                                  refine k_callSW C (y := yL_about) [.ref sc, .int (iI 3)] 2 rfl (o_L_about (x_l X) (x_G X) sc tx so pr b2 b t va re su u415.2.1 u415.2.2.1 u415.2.2.2.1 bd cm sk n k m u415.2.2.2.2.1 u415.2.2.2.2.2.1 u415.2.2.2.2.2.2 3 (by first | assumption | omega) (by first | assumption | omega) (by first | assumption | omega) (by first | assumption | omega)) gL_hangs_L_about rfl ⟨by decide +kernel, by decide +kernel, by decide +kernel⟩ ⟨by decide, by decide⟩ [0, 1, 2, 3, 4, 5] (by decide) (wc := [(sc, .inr (5, [.ref tx, .ref b, .ref so, .ref pr, .ref b2])), (b, .inr (0, [.ref t, .int (iI u415.2.1), .int (iI bd), .int (iI cm), .long (jL sk)])), (t, .inr (3, [.ref va, .ref re, .ref su, .int (iI u415.2.2.1), .int (iI u415.2.2.2.1)])), (va, .inl (g_I (x_G X), 631, .inl (aI u415.2.2.2.2.1))), (re, .inl (g_I (x_G X), 2524, .inl (aI u415.2.2.2.2.2.1))), (su, .inl (g_J (x_G X), 631, .inr (.inl (aL u415.2.2.2.2.2.2))))]) rfl [] rfl (Nat.le_of_ble_eq_true rfl) ⟨Nat.le_of_ble_eq_true rfl, Nat.le_of_ble_eq_true rfl⟩ dL_hangs_425 (fun u425 => [(sc, .inr (5, [.ref tx, .ref b, .ref so, .ref pr, .ref b2])), (b, .inr (0, [.ref t, .int (iI u425.2.1), .int (iI bd), .int (iI cm), .long (jL sk)])), (t, .inr (3, [.ref va, .ref re, .ref su, .int (iI u425.2.2.1), .int (iI u425.2.2.2.1)])), (va, .inl (g_I (x_G X), 631, .inl (aI u425.2.2.2.2.1))), (re, .inl (g_I (x_G X), 2524, .inl (aI u425.2.2.2.2.2.1))), (su, .inl (g_J (x_G X), 631, .inr (.inl (aL u425.2.2.2.2.2.2))))]) (Or.inr ⟨[], [0, 1, 2, 3, 4, 5], [], rfl, by decide, by decide, by decide, fun _ => rfl⟩) (fun u425 => [.int (iI u425.1)]) (fun _ => rfl) 1 6 ⟨rfl, rfl⟩ (fun u425 hu425 => ?_)
                                  obtain ⟨-, a425, bt425⟩ := hu425
                                  have f425 := a425.trans (ab_3 n k m)
                                  refine k_iload C 2 rfl dL_hangs_428 ?_
                                  refine k_icmp_ne C 476 (⟨by omega, by omega⟩) (⟨by omega, by omega⟩) dL_hangs_430 (by decide) (fun c430 => ?_) (fun c430 => ?_)
                                  · exfalso; omega
                                  · skip
                                    refine k_aload_n C 9 rfl dL_hangs_433 rfl ?_
                                    refine k_bipush C dL_hangs_434 (by decide) ?_
                                    refine k_callSW C (y := yL_about) [.ref sc, .int (iI 6)] 2 rfl (o_L_about (x_l X) (x_G X) sc tx so pr b2 b t va re su u425.2.1 u425.2.2.1 u425.2.2.2.1 bd cm sk n k m u425.2.2.2.2.1 u425.2.2.2.2.2.1 u425.2.2.2.2.2.2 6 (by first | assumption | omega) (by first | assumption | omega) (by first | assumption | omega) (by first | assumption | omega)) gL_hangs_L_about rfl ⟨by decide +kernel, by decide +kernel, by decide +kernel⟩ ⟨by decide, by decide⟩ [0, 1, 2, 3, 4, 5] (by decide) (wc := [(sc, .inr (5, [.ref tx, .ref b, .ref so, .ref pr, .ref b2])), (b, .inr (0, [.ref t, .int (iI u425.2.1), .int (iI bd), .int (iI cm), .long (jL sk)])), (t, .inr (3, [.ref va, .ref re, .ref su, .int (iI u425.2.2.1), .int (iI u425.2.2.2.1)])), (va, .inl (g_I (x_G X), 631, .inl (aI u425.2.2.2.2.1))), (re, .inl (g_I (x_G X), 2524, .inl (aI u425.2.2.2.2.2.1))), (su, .inl (g_J (x_G X), 631, .inr (.inl (aL u425.2.2.2.2.2.2))))]) rfl [] rfl (Nat.le_of_ble_eq_true rfl) ⟨Nat.le_of_ble_eq_true rfl, Nat.le_of_ble_eq_true rfl⟩ dL_hangs_436 (fun u436 => [(sc, .inr (5, [.ref tx, .ref b, .ref so, .ref pr, .ref b2])), (b, .inr (0, [.ref t, .int (iI u436.2.1), .int (iI bd), .int (iI cm), .long (jL sk)])), (t, .inr (3, [.ref va, .ref re, .ref su, .int (iI u436.2.2.1), .int (iI u436.2.2.2.1)])), (va, .inl (g_I (x_G X), 631, .inl (aI u436.2.2.2.2.1))), (re, .inl (g_I (x_G X), 2524, .inl (aI u436.2.2.2.2.2.1))), (su, .inl (g_J (x_G X), 631, .inr (.inl (aL u436.2.2.2.2.2.2))))]) (Or.inr ⟨[], [0, 1, 2, 3, 4, 5], [], rfl, by decide, by decide, by decide, fun _ => rfl⟩) (fun u436 => [.int (iI u436.1)]) (fun _ => rfl) 1 6 ⟨rfl, rfl⟩ (fun u436 hu436 => ?_)
                                    obtain ⟨-, a436, bt436⟩ := hu436
                                    have f436 := a436.trans (ab_6 n k m)
                                    have g436 := pA_rng ((k : Int) - 1)
                                    refine k_iload C 1 rfl dL_hangs_439 ?_
                                    refine k_icmp_ne C 476 (⟨by omega, by omega⟩) (⟨by omega, by omega⟩) dL_hangs_441 (by decide) (fun c441 => ?_) (fun c441 => ?_)
                                    · exfalso; omega
                                    · skip
                                      refine k_aload_n C 9 rfl dL_hangs_444 rfl ?_
                                      refine k_iconst C dL_hangs_445 ?_
                                      refine k_callSW C (y := yL_about) [.ref sc, .int (iI 5)] 2 rfl (o_L_about (x_l X) (x_G X) sc tx so pr b2 b t va re su u436.2.1 u436.2.2.1 u436.2.2.2.1 bd cm sk n k m u436.2.2.2.2.1 u436.2.2.2.2.2.1 u436.2.2.2.2.2.2 5 (by first | assumption | omega) (by first | assumption | omega) (by first | assumption | omega) (by first | assumption | omega)) gL_hangs_L_about rfl ⟨by decide +kernel, by decide +kernel, by decide +kernel⟩ ⟨by decide, by decide⟩ [0, 1, 2, 3, 4, 5] (by decide) (wc := [(sc, .inr (5, [.ref tx, .ref b, .ref so, .ref pr, .ref b2])), (b, .inr (0, [.ref t, .int (iI u436.2.1), .int (iI bd), .int (iI cm), .long (jL sk)])), (t, .inr (3, [.ref va, .ref re, .ref su, .int (iI u436.2.2.1), .int (iI u436.2.2.2.1)])), (va, .inl (g_I (x_G X), 631, .inl (aI u436.2.2.2.2.1))), (re, .inl (g_I (x_G X), 2524, .inl (aI u436.2.2.2.2.2.1))), (su, .inl (g_J (x_G X), 631, .inr (.inl (aL u436.2.2.2.2.2.2))))]) rfl [] rfl (Nat.le_of_ble_eq_true rfl) ⟨Nat.le_of_ble_eq_true rfl, Nat.le_of_ble_eq_true rfl⟩ dL_hangs_446 (fun u446 => [(sc, .inr (5, [.ref tx, .ref b, .ref so, .ref pr, .ref b2])), (b, .inr (0, [.ref t, .int (iI u446.2.1), .int (iI bd), .int (iI cm), .long (jL sk)])), (t, .inr (3, [.ref va, .ref re, .ref su, .int (iI u446.2.2.1), .int (iI u446.2.2.2.1)])), (va, .inl (g_I (x_G X), 631, .inl (aI u446.2.2.2.2.1))), (re, .inl (g_I (x_G X), 2524, .inl (aI u446.2.2.2.2.2.1))), (su, .inl (g_J (x_G X), 631, .inr (.inl (aL u446.2.2.2.2.2.2))))]) (Or.inr ⟨[], [0, 1, 2, 3, 4, 5], [], rfl, by decide, by decide, by decide, fun _ => rfl⟩) (fun u446 => [.int (iI u446.1)]) (fun _ => rfl) 1 6 ⟨rfl, rfl⟩ (fun u446 hu446 => ?_)
                                      obtain ⟨-, a446, bt446⟩ := hu446
                                      have f446 := a446.trans (ab_5 n k m)
                                      have g446 := nxI_rng n k
                                      refine k_iconst C dL_hangs_449 ?_
                                      refine k_icmp_eq C 472 (⟨by omega, by omega⟩) (⟨by omega, by omega⟩) dL_hangs_450 (by decide) (fun c450 => ?_) (fun c450 => ?_)
                                      · skip
                                        refine k_iconst C dL_hangs_472 ?_
                                        refine k_goto C 477 dL_hangs_473 (by decide) ?_
                                        exact k_zret C hR (by omega) (u := (u446.2.1, u446.2.2.1, u446.2.2.2.1, u446.2.2.2.2.1, u446.2.2.2.2.2.1, u446.2.2.2.2.2.2)) rfl (by (try dsimp only) <;> exact (by assumption)) rfl (Nat.le_of_ble_eq_true rfl) (Nat.le_of_ble_eq_true rfl) dL_hangs_477
                                      · skip
                                        have g450 := nxI_at (n := n) (k := k) (by omega)
                                        refine k_aload_n C 9 rfl dL_hangs_453 rfl ?_
                                        refine k_iconst C dL_hangs_454 ?_
                                        refine k_callSW C (y := yL_about) [.ref sc, .int (iI 5)] 2 rfl (o_L_about (x_l X) (x_G X) sc tx so pr b2 b t va re su u446.2.1 u446.2.2.1 u446.2.2.2.1 bd cm sk n k m u446.2.2.2.2.1 u446.2.2.2.2.2.1 u446.2.2.2.2.2.2 5 (by first | assumption | omega) (by first | assumption | omega) (by first | assumption | omega) (by first | assumption | omega)) gL_hangs_L_about rfl ⟨by decide +kernel, by decide +kernel, by decide +kernel⟩ ⟨by decide, by decide⟩ [0, 1, 2, 3, 4, 5] (by decide) (wc := [(sc, .inr (5, [.ref tx, .ref b, .ref so, .ref pr, .ref b2])), (b, .inr (0, [.ref t, .int (iI u446.2.1), .int (iI bd), .int (iI cm), .long (jL sk)])), (t, .inr (3, [.ref va, .ref re, .ref su, .int (iI u446.2.2.1), .int (iI u446.2.2.2.1)])), (va, .inl (g_I (x_G X), 631, .inl (aI u446.2.2.2.2.1))), (re, .inl (g_I (x_G X), 2524, .inl (aI u446.2.2.2.2.2.1))), (su, .inl (g_J (x_G X), 631, .inr (.inl (aL u446.2.2.2.2.2.2))))]) rfl [] rfl (Nat.le_of_ble_eq_true rfl) ⟨Nat.le_of_ble_eq_true rfl, Nat.le_of_ble_eq_true rfl⟩ dL_hangs_455 (fun u455 => [(sc, .inr (5, [.ref tx, .ref b, .ref so, .ref pr, .ref b2])), (b, .inr (0, [.ref t, .int (iI u455.2.1), .int (iI bd), .int (iI cm), .long (jL sk)])), (t, .inr (3, [.ref va, .ref re, .ref su, .int (iI u455.2.2.1), .int (iI u455.2.2.2.1)])), (va, .inl (g_I (x_G X), 631, .inl (aI u455.2.2.2.2.1))), (re, .inl (g_I (x_G X), 2524, .inl (aI u455.2.2.2.2.2.1))), (su, .inl (g_J (x_G X), 631, .inr (.inl (aL u455.2.2.2.2.2.2))))]) (Or.inr ⟨[], [0, 1, 2, 3, 4, 5], [], rfl, by decide, by decide, by decide, fun _ => rfl⟩) (fun u455 => [.int (iI u455.1)]) (fun _ => rfl) 1 6 ⟨rfl, rfl⟩ (fun u455 hu455 => ?_)
                                        obtain ⟨-, a455, bt455⟩ := hu455
                                        have f455 := a455.trans (ab_5 n k m)
                                        refine k_iload C 1 rfl dL_hangs_458 ?_
                                        refine k_icmp_le C 476 (⟨by omega, by omega⟩) (⟨by omega, by omega⟩) dL_hangs_460 (by decide) (fun c460 => ?_) (fun c460 => ?_)
                                        · exfalso; omega
                                        · skip
                                          refine k_aload_n C 9 rfl dL_hangs_463 rfl ?_
                                          refine k_iconst C dL_hangs_464 ?_
                                          refine k_callSW C (y := yL_about) [.ref sc, .int (iI 5)] 2 rfl (o_L_about (x_l X) (x_G X) sc tx so pr b2 b t va re su u455.2.1 u455.2.2.1 u455.2.2.2.1 bd cm sk n k m u455.2.2.2.2.1 u455.2.2.2.2.2.1 u455.2.2.2.2.2.2 5 (by first | assumption | omega) (by first | assumption | omega) (by first | assumption | omega) (by first | assumption | omega)) gL_hangs_L_about rfl ⟨by decide +kernel, by decide +kernel, by decide +kernel⟩ ⟨by decide, by decide⟩ [0, 1, 2, 3, 4, 5] (by decide) (wc := [(sc, .inr (5, [.ref tx, .ref b, .ref so, .ref pr, .ref b2])), (b, .inr (0, [.ref t, .int (iI u455.2.1), .int (iI bd), .int (iI cm), .long (jL sk)])), (t, .inr (3, [.ref va, .ref re, .ref su, .int (iI u455.2.2.1), .int (iI u455.2.2.2.1)])), (va, .inl (g_I (x_G X), 631, .inl (aI u455.2.2.2.2.1))), (re, .inl (g_I (x_G X), 2524, .inl (aI u455.2.2.2.2.2.1))), (su, .inl (g_J (x_G X), 631, .inr (.inl (aL u455.2.2.2.2.2.2))))]) rfl [] rfl (Nat.le_of_ble_eq_true rfl) ⟨Nat.le_of_ble_eq_true rfl, Nat.le_of_ble_eq_true rfl⟩ dL_hangs_465 (fun u465 => [(sc, .inr (5, [.ref tx, .ref b, .ref so, .ref pr, .ref b2])), (b, .inr (0, [.ref t, .int (iI u465.2.1), .int (iI bd), .int (iI cm), .long (jL sk)])), (t, .inr (3, [.ref va, .ref re, .ref su, .int (iI u465.2.2.1), .int (iI u465.2.2.2.1)])), (va, .inl (g_I (x_G X), 631, .inl (aI u465.2.2.2.2.1))), (re, .inl (g_I (x_G X), 2524, .inl (aI u465.2.2.2.2.2.1))), (su, .inl (g_J (x_G X), 631, .inr (.inl (aL u465.2.2.2.2.2.2))))]) (Or.inr ⟨[], [0, 1, 2, 3, 4, 5], [], rfl, by decide, by decide, by decide, fun _ => rfl⟩) (fun u465 => [.int (iI u465.1)]) (fun _ => rfl) 1 6 ⟨rfl, rfl⟩ (fun u465 hu465 => ?_)
                                          obtain ⟨-, a465, bt465⟩ := hu465
                                          have f465 := a465.trans (ab_5 n k m)
                                          refine k_iload_n C 8 rfl dL_hangs_468 rfl ?_
                                          refine k_icmp_gt C 476 (⟨by omega, by omega⟩) (⟨by omega, by omega⟩) dL_hangs_469 (by decide) (fun c469 => ?_) (fun c469 => ?_)
                                          · exfalso; omega
                                          · skip
                                            refine k_iconst C dL_hangs_472 ?_
                                            refine k_goto C 477 dL_hangs_473 (by decide) ?_
                                            exact k_zret C hR (by omega) (u := (u465.2.1, u465.2.2.1, u465.2.2.2.1, u465.2.2.2.2.1, u465.2.2.2.2.2.1, u465.2.2.2.2.2.2)) rfl (by (try dsimp only) <;> exact (by assumption)) rfl (Nat.le_of_ble_eq_true rfl) (Nat.le_of_ble_eq_true rfl) dL_hangs_477
                            · skip
                              have k316 : j < (k : Int) := Int.not_le.mp fun z => c316 (by rw [a313]; exact cm_out (by omega))
                              refine k_iload C 4 rfl dL_hangs_319 ?_
                              refine k_if_eq C 408 (⟨by omega, by omega⟩) dL_hangs_321 (by decide) (fun c321 => ?_) (fun c321 => ?_)
                              · exfalso; omega
                              · skip
                                refine k_aload_n C 9 rfl dL_hangs_324 rfl ?_
                                refine k_iload C 0 rfl dL_hangs_325 ?_
                                refine k_callSW C (y := yL_came) [.ref sc, .int (iI j)] 2 rfl (o_L_came (x_l X) (x_G X) sc tx so pr b2 b t tl1 bd cm sk j n k m (by first | assumption | omega) (by first | assumption | omega) (by first | assumption | omega)) gL_hangs_L_came rfl ⟨by decide +kernel, by decide +kernel, by decide +kernel⟩ ⟨by decide, by decide⟩ [0, 1] (by decide) (wc := [(sc, .inr (5, [.ref tx, .ref b, .ref so, .ref pr, .ref b2])), (b, .inr (0, [.ref t, .int (iI tl1), .int (iI bd), .int (iI cm), .long (jL sk)]))]) rfl [] rfl (Nat.le_of_ble_eq_true rfl) ⟨Nat.le_of_ble_eq_true rfl, Nat.le_of_ble_eq_true rfl⟩ dL_hangs_327 (fun _ => [(sc, .inr (5, [.ref tx, .ref b, .ref so, .ref pr, .ref b2])), (b, .inr (0, [.ref t, .int (iI tl1), .int (iI bd), .int (iI cm), .long (jL sk)])), (t, .inr (3, [.ref va, .ref re, .ref su, .int (iI tb1), .int (iI ts1)])), (va, .inl (g_I (x_G X), 631, .inl (aI fv1))), (re, .inl (g_I (x_G X), 2524, .inl (aI fr1))), (su, .inl (g_J (x_G X), 631, .inr (.inl (aL fs1))))]) (Or.inl (fun _ => ⟨rfl, rfl⟩)) (fun u327 => [.int (iI u327)]) (fun _ => rfl) 1 6 ⟨rfl, rfl⟩ (fun u327 hu327 => ?_)
                                obtain ⟨-, a327⟩ := hu327
                                have g327 := cm_rng k m j
                                refine k_istore C (lo' := [(10, .int (iI u327)), (9, .int (iI j)), (8, .int (iI la)), (7, .int (iI sp1)), (6, .int (iI st)), (5, .int (iI 1)), (4, .int (iI ah)), (3, .int (iI be)), (2, .int (iI u8.1)), (1, .int (iI u2.1)), (0, .ref sc)]) dL_hangs_330 (by decide) rfl ?_
                                rcases cm_in (m := m) j1.1 (show j < (k : Int) by omega) s6 with ⟨p1, p2⟩ | ⟨p1, p2⟩
                                · skip
                                  have p3 := pA_2 (j := j) (by omega)
                                  have p4 := pA_lt (j := j) (by omega)
                                  rw [p2] at a327
                                  refine k_iload C 4 rfl dL_hangs_332 ?_
                                  refine k_iload C 0 rfl dL_hangs_334 ?_
                                  refine k_if_le C 343 (⟨by omega, by omega⟩) dL_hangs_336 (by decide) (fun c336 => ?_) (fun c336 => ?_)
                                  · exfalso; omega
                                  · skip
                                    refine k_iconst C dL_hangs_339 ?_
                                    refine k_goto C 344 dL_hangs_340 (by decide) ?_
                                    refine k_iadd C dL_hangs_344 ?_
                                    refine k_nmI (fun v344 e344 => ?_)
                                    refine k_istore C (lo' := [(6, .int (iI v344)), (10, .int (iI u327)), (9, .int (iI j)), (8, .int (iI la)), (7, .int (iI sp1)), (5, .int (iI 1)), (4, .int (iI ah)), (3, .int (iI be)), (2, .int (iI u8.1)), (1, .int (iI u2.1)), (0, .ref sc)]) dL_hangs_345 (by decide) rfl ?_
                                    refine k_iload C 4 rfl dL_hangs_347 ?_
                                    refine k_iload C 1 rfl dL_hangs_349 ?_
                                    refine k_if_le C 358 (⟨by omega, by omega⟩) dL_hangs_351 (by decide) (fun c351 => ?_) (fun c351 => ?_)
                                    · exfalso; omega
                                    · skip
                                      refine k_iconst C dL_hangs_354 ?_
                                      refine k_goto C 359 dL_hangs_355 (by decide) ?_
                                      refine k_iadd C dL_hangs_359 ?_
                                      refine k_nmI (fun v359 e359 => ?_)
                                      refine k_istore C (lo' := [(7, .int (iI v359)), (6, .int (iI v344)), (10, .int (iI u327)), (9, .int (iI j)), (8, .int (iI la)), (5, .int (iI 1)), (4, .int (iI ah)), (3, .int (iI be)), (2, .int (iI u8.1)), (1, .int (iI u2.1)), (0, .ref sc)]) dL_hangs_360 (by decide) rfl ?_
                                      refine k_iload C 2 rfl dL_hangs_362 ?_
                                      refine k_if_le C 372 (⟨by omega, by omega⟩) dL_hangs_364 (by decide) (fun c364 => ?_) (fun c364 => ?_)
                                      · exfalso; omega
                                      · skip
                                        refine k_iload C 2 rfl dL_hangs_367 ?_
                                        refine k_goto C 375 dL_hangs_369 (by decide) ?_
                                        refine k_iload C 4 rfl dL_hangs_375 ?_
                                        refine k_icmp_le C 384 (⟨by omega, by omega⟩) (⟨by omega, by omega⟩) dL_hangs_377 (by decide) (fun c377 => ?_) (fun c377 => ?_)
                                        · exfalso; omega
                                        · skip
                                          refine k_iconst C dL_hangs_380 ?_
                                          refine k_goto C 385 dL_hangs_381 (by decide) ?_
                                          refine k_istore C (lo' := [(5, .int (iI 1)), (7, .int (iI v359)), (6, .int (iI v344)), (10, .int (iI u327)), (9, .int (iI j)), (8, .int (iI la)), (4, .int (iI ah)), (3, .int (iI be)), (2, .int (iI u8.1)), (1, .int (iI u2.1)), (0, .ref sc)]) dL_hangs_385 (by decide) rfl ?_
                                          refine k_iload C 3 rfl dL_hangs_387 ?_
                                          refine k_if_le C 397 (⟨by omega, by omega⟩) dL_hangs_389 (by decide) (fun c389 => ?_) (fun c389 => ?_)
                                          · exfalso; omega
                                          · skip
                                            refine k_iload C 3 rfl dL_hangs_392 ?_
                                            refine k_goto C 400 dL_hangs_394 (by decide) ?_
                                            refine k_istore C (lo' := [(8, .int (iI u327)), (5, .int (iI 1)), (7, .int (iI v359)), (6, .int (iI v344)), (10, .int (iI u327)), (9, .int (iI j)), (4, .int (iI ah)), (3, .int (iI be)), (2, .int (iI u8.1)), (1, .int (iI u2.1)), (0, .ref sc)]) dL_hangs_400 (by decide) rfl ?_
                                            obtain ⟨v402, e402⟩ : ∃ y : Int, y = j + 1 := ⟨_, rfl⟩
                                            refine k_iinc C (lo' := [(9, .int (iI v402)), (8, .int (iI u327)), (5, .int (iI 1)), (7, .int (iI v359)), (6, .int (iI v344)), (10, .int (iI u327)), (4, .int (iI ah)), (3, .int (iI be)), (2, .int (iI u8.1)), (1, .int (iI u2.1)), (0, .ref sc)]) 5 rfl dL_hangs_402 (by decide) v402 e402 rfl ?_
                                            refine k_goto C 310 dL_hangs_405 (by decide) ?_
                                            refine k_lo (lo' := [(9, .int (iI v402)), (8, .int (iI u327)), (7, .int (iI v359)), (6, .int (iI v344)), (5, .int (iI 1)), (4, .int (iI ah)), (3, .int (iI be)), (2, .int (iI u8.1)), (1, .int (iI u2.1)), (0, .ref sc)]) [0, 1, 3, 4, 2, 6, 7, 8, 9, 10] rfl ?_
                                            exact ih310 v402 v344 v359 u327 (⟨by omega, by rw [show v402.toNat = j.toNat + 1 by omega, ce_p1 p1]; omega, by omega, by rw [show v402 - 1 = j by omega]; omega⟩) (by omega)
                                · skip
                                  have p3 := pA_2 (j := j) (by omega)
                                  have p4 := pA_lt (j := j) (by omega)
                                  rw [p2] at a327
                                  refine k_iload C 4 rfl dL_hangs_332 ?_
                                  refine k_iload C 0 rfl dL_hangs_334 ?_
                                  refine k_if_le C 343 (⟨by omega, by omega⟩) dL_hangs_336 (by decide) (fun c336 => ?_) (fun c336 => ?_)
                                  · skip
                                    refine k_iconst C dL_hangs_343 ?_
                                    refine k_iadd C dL_hangs_344 ?_
                                    refine k_nmI (fun v344 e344 => ?_)
                                    refine k_istore C (lo' := [(6, .int (iI v344)), (10, .int (iI u327)), (9, .int (iI j)), (8, .int (iI la)), (7, .int (iI sp1)), (5, .int (iI 1)), (4, .int (iI ah)), (3, .int (iI be)), (2, .int (iI u8.1)), (1, .int (iI u2.1)), (0, .ref sc)]) dL_hangs_345 (by decide) rfl ?_
                                    refine k_iload C 4 rfl dL_hangs_347 ?_
                                    refine k_iload C 1 rfl dL_hangs_349 ?_
                                    refine k_if_le C 358 (⟨by omega, by omega⟩) dL_hangs_351 (by decide) (fun c351 => ?_) (fun c351 => ?_)
                                    · skip
                                      refine k_iconst C dL_hangs_358 ?_
                                      refine k_iadd C dL_hangs_359 ?_
                                      refine k_nmI (fun v359 e359 => ?_)
                                      refine k_istore C (lo' := [(7, .int (iI v359)), (6, .int (iI v344)), (10, .int (iI u327)), (9, .int (iI j)), (8, .int (iI la)), (5, .int (iI 1)), (4, .int (iI ah)), (3, .int (iI be)), (2, .int (iI u8.1)), (1, .int (iI u2.1)), (0, .ref sc)]) dL_hangs_360 (by decide) rfl ?_
                                      refine k_iload C 2 rfl dL_hangs_362 ?_
                                      refine k_if_le C 372 (⟨by omega, by omega⟩) dL_hangs_364 (by decide) (fun c364 => ?_) (fun c364 => ?_)
                                      · skip
                                        refine k_iload C 2 rfl dL_hangs_372 ?_
                                        refine k_ineg C dL_hangs_374 ?_
                                        refine k_nmI (fun v374 e374 => ?_)
                                        refine k_iload C 4 rfl dL_hangs_375 ?_
                                        refine k_icmp_le C 384 (⟨by omega, by omega⟩) (⟨by omega, by omega⟩) dL_hangs_377 (by decide) (fun c377 => ?_) (fun c377 => ?_)
                                        · exfalso; omega
                                        · skip
                                          refine k_iconst C dL_hangs_380 ?_
                                          refine k_goto C 385 dL_hangs_381 (by decide) ?_
                                          refine k_istore C (lo' := [(5, .int (iI 1)), (7, .int (iI v359)), (6, .int (iI v344)), (10, .int (iI u327)), (9, .int (iI j)), (8, .int (iI la)), (4, .int (iI ah)), (3, .int (iI be)), (2, .int (iI u8.1)), (1, .int (iI u2.1)), (0, .ref sc)]) dL_hangs_385 (by decide) rfl ?_
                                          refine k_iload C 3 rfl dL_hangs_387 ?_
                                          refine k_if_le C 397 (⟨by omega, by omega⟩) dL_hangs_389 (by decide) (fun c389 => ?_) (fun c389 => ?_)
                                          · skip
                                            refine k_iload C 3 rfl dL_hangs_397 ?_
                                            refine k_ineg C dL_hangs_399 ?_
                                            refine k_nmI (fun v399 e399 => ?_)
                                            refine k_istore C (lo' := [(8, .int (iI v399)), (5, .int (iI 1)), (7, .int (iI v359)), (6, .int (iI v344)), (10, .int (iI u327)), (9, .int (iI j)), (4, .int (iI ah)), (3, .int (iI be)), (2, .int (iI u8.1)), (1, .int (iI u2.1)), (0, .ref sc)]) dL_hangs_400 (by decide) rfl ?_
                                            obtain ⟨v402, e402⟩ : ∃ y : Int, y = j + 1 := ⟨_, rfl⟩
                                            refine k_iinc C (lo' := [(9, .int (iI v402)), (8, .int (iI v399)), (5, .int (iI 1)), (7, .int (iI v359)), (6, .int (iI v344)), (10, .int (iI u327)), (4, .int (iI ah)), (3, .int (iI be)), (2, .int (iI u8.1)), (1, .int (iI u2.1)), (0, .ref sc)]) 5 rfl dL_hangs_402 (by decide) v402 e402 rfl ?_
                                            refine k_goto C 310 dL_hangs_405 (by decide) ?_
                                            refine k_lo (lo' := [(9, .int (iI v402)), (8, .int (iI v399)), (7, .int (iI v359)), (6, .int (iI v344)), (5, .int (iI 1)), (4, .int (iI ah)), (3, .int (iI be)), (2, .int (iI u8.1)), (1, .int (iI u2.1)), (0, .ref sc)]) [0, 1, 3, 4, 2, 6, 7, 8, 9, 10] rfl ?_
                                            exact ih310 v402 v344 v359 v399 (⟨by omega, by rw [show v402.toNat = j.toNat + 1 by omega, ce_p0 p1]; omega, by omega, by rw [show v402 - 1 = j by omega]; omega⟩) (by omega)
                                          · exfalso; omega
                                      · exfalso; omega
                                    · exfalso; omega
                                  · exfalso; omega
                        exact L310 _ 0 0 0 (-1) (⟨by omega, rfl, rfl, by decide⟩) (Nat.lt_succ_self _)
                      · skip
                        refine k_iload C 1 rfl dL_hangs_123 ?_
                        refine k_if_eq C 298 (⟨by omega, by omega⟩) dL_hangs_125 (by decide) (fun c125 => ?_) (fun c125 => ?_)
                        · exfalso; omega
                        · skip
                          refine k_aload_n C 6 rfl dL_hangs_128 rfl ?_
                          refine k_iload C 0 rfl dL_hangs_129 ?_
                          refine k_callSW C (y := yL_quotient) [.ref sc, .int (iI q)] 2 rfl (o_L_quotient (x_l X) (x_G X) sc tx so pr b2 b t va re su tl1 tb1 ts1 bd cm sk n k m fv1 fr1 fs1 q (by first | assumption | omega) (by first | assumption | omega) (by first | assumption | omega) (by first | assumption | omega)) gL_hangs_L_quotient rfl ⟨by decide +kernel, by decide +kernel, by decide +kernel⟩ ⟨by decide, by decide⟩ [0, 1, 2, 3, 4, 5] (by decide) (wc := [(sc, .inr (5, [.ref tx, .ref b, .ref so, .ref pr, .ref b2])), (b, .inr (0, [.ref t, .int (iI tl1), .int (iI bd), .int (iI cm), .long (jL sk)])), (t, .inr (3, [.ref va, .ref re, .ref su, .int (iI tb1), .int (iI ts1)])), (va, .inl (g_I (x_G X), 631, .inl (aI fv1))), (re, .inl (g_I (x_G X), 2524, .inl (aI fr1))), (su, .inl (g_J (x_G X), 631, .inr (.inl (aL fs1))))]) rfl [] rfl (Nat.le_of_ble_eq_true rfl) ⟨Nat.le_of_ble_eq_true rfl, Nat.le_of_ble_eq_true rfl⟩ dL_hangs_131 (fun u131 => [(sc, .inr (5, [.ref tx, .ref b, .ref so, .ref pr, .ref b2])), (b, .inr (0, [.ref t, .int (iI u131.2.1), .int (iI bd), .int (iI cm), .long (jL sk)])), (t, .inr (3, [.ref va, .ref re, .ref su, .int (iI u131.2.2.1), .int (iI u131.2.2.2.1)])), (va, .inl (g_I (x_G X), 631, .inl (aI u131.2.2.2.2.1))), (re, .inl (g_I (x_G X), 2524, .inl (aI u131.2.2.2.2.2.1))), (su, .inl (g_J (x_G X), 631, .inr (.inl (aL u131.2.2.2.2.2.2))))]) (Or.inr ⟨[], [0, 1, 2, 3, 4, 5], [], rfl, by decide, by decide, by decide, fun _ => rfl⟩) (fun u131 => [.int (iI u131.1)]) (fun _ => rfl) 1 6 ⟨rfl, rfl⟩ (fun u131 hu131 => ?_)
                          obtain ⟨-, a131, bt131⟩ := hu131
                          have i4b := i4 (by omega)
                          obtain ⟨w1, w2, w3⟩ := qv_step (n := n) (k := k) (m := m) (q := q) s4 (by omega) (by omega)
                          refine k_istore C (lo' := [(7, .int (iI u131.1)), (6, .int (iI q)), (5, .int (iI 1)), (4, .int (iI ah)), (3, .int (iI be)), (2, .int (iI u8.1)), (1, .int (iI u2.1)), (0, .ref sc)]) dL_hangs_134 (by decide) rfl ?_
                          refine k_aload_n C 7 rfl dL_hangs_136 rfl ?_
                          refine k_iload C 1 rfl dL_hangs_137 ?_
                          refine k_callSW C (y := yL_left) [.ref sc, .int (iI q)] 2 rfl (o_L_left (x_l X) (x_G X) sc tx so pr b2 b t va re su u131.2.1 u131.2.2.1 u131.2.2.2.1 bd cm sk n k m u131.2.2.2.2.1 u131.2.2.2.2.2.1 u131.2.2.2.2.2.2 q (by first | assumption | omega) (by first | assumption | omega) (by first | assumption | omega) (by first | assumption | omega)) gL_hangs_L_left rfl ⟨by decide +kernel, by decide +kernel, by decide +kernel⟩ ⟨by decide, by decide⟩ [0, 1, 2, 3, 4, 5] (by decide) (wc := [(sc, .inr (5, [.ref tx, .ref b, .ref so, .ref pr, .ref b2])), (b, .inr (0, [.ref t, .int (iI u131.2.1), .int (iI bd), .int (iI cm), .long (jL sk)])), (t, .inr (3, [.ref va, .ref re, .ref su, .int (iI u131.2.2.1), .int (iI u131.2.2.2.1)])), (va, .inl (g_I (x_G X), 631, .inl (aI u131.2.2.2.2.1))), (re, .inl (g_I (x_G X), 2524, .inl (aI u131.2.2.2.2.2.1))), (su, .inl (g_J (x_G X), 631, .inr (.inl (aL u131.2.2.2.2.2.2))))]) rfl [] rfl (Nat.le_of_ble_eq_true rfl) ⟨Nat.le_of_ble_eq_true rfl, Nat.le_of_ble_eq_true rfl⟩ dL_hangs_139 (fun u139 => [(sc, .inr (5, [.ref tx, .ref b, .ref so, .ref pr, .ref b2])), (b, .inr (0, [.ref t, .int (iI u139.2.1), .int (iI bd), .int (iI cm), .long (jL sk)])), (t, .inr (3, [.ref va, .ref re, .ref su, .int (iI u139.2.2.1), .int (iI u139.2.2.2.1)])), (va, .inl (g_I (x_G X), 631, .inl (aI u139.2.2.2.2.1))), (re, .inl (g_I (x_G X), 2524, .inl (aI u139.2.2.2.2.2.1))), (su, .inl (g_J (x_G X), 631, .inr (.inl (aL u139.2.2.2.2.2.2))))]) (Or.inr ⟨[], [0, 1, 2, 3, 4, 5], [], rfl, by decide, by decide, by decide, fun _ => rfl⟩) (fun u139 => [.int (iI u139.1)]) (fun _ => rfl) 1 6 ⟨rfl, rfl⟩ (fun u139 hu139 => ?_)
                          obtain ⟨-, a139, bt139⟩ := hu139
                          refine k_istore C (lo' := [(8, .int (iI u139.1)), (7, .int (iI u131.1)), (6, .int (iI q)), (5, .int (iI 1)), (4, .int (iI ah)), (3, .int (iI be)), (2, .int (iI u8.1)), (1, .int (iI u2.1)), (0, .ref sc)]) dL_hangs_142 (by decide) rfl ?_
                          refine k_iload C 1 rfl dL_hangs_144 ?_
                          refine k_iload_n C 5 rfl dL_hangs_146 rfl ?_
                          refine k_icmp_ge C 202 (⟨by omega, by omega⟩) (⟨by omega, by omega⟩) dL_hangs_147 (by decide) (fun c147 => ?_) (fun c147 => ?_)
                          · exfalso; omega
                          · skip
                            refine k_iload C 1 rfl dL_hangs_150 ?_
                            refine k_iconst C dL_hangs_152 ?_
                            refine k_icmp_lt C 202 (⟨by omega, by omega⟩) (⟨by omega, by omega⟩) dL_hangs_153 (by decide) (fun c153 => ?_) (fun c153 => ?_)
                            · exfalso; omega
                            · skip
                              refine k_iload_n C 7 rfl dL_hangs_156 rfl ?_
                              refine k_iload_n C 7 rfl dL_hangs_157 rfl ?_
                              refine k_iload C 1 rfl dL_hangs_158 ?_
                              refine k_idiv C ⟨by omega, by omega⟩ ⟨by omega, by omega⟩ dL_hangs_160 ?_
                              refine k_nmI (fun v160 e160 => ?_)
                              have y160 := (qv_two (n := n) (q := q) s4 (by omega) (v := u131.1) (a := v160) a131 (by rw [e160, f2]) rfl)
                              refine k_idiv C ⟨by omega, by omega⟩ ⟨by omega, by omega⟩ dL_hangs_161 ?_
                              refine k_nmI (fun v161 e161 => ?_)
                              have y161 := qv_two (n := n) (q := q) s4 (by omega) (v := u131.1) (a := v160) (b := v161) a131 (by rw [e160, f2]) (by rw [e161, f2])
                              refine k_iload C 1 rfl dL_hangs_162 ?_
                              refine k_icmp_ne C 202 (⟨by omega, by omega⟩) (⟨by omega, by omega⟩) dL_hangs_164 (by decide) (fun c164 => ?_) (fun c164 => ?_)
                              · exfalso; omega
                              · skip
                                refine k_aload_n C 8 rfl dL_hangs_167 rfl ?_
                                refine k_iload C 1 rfl dL_hangs_168 ?_
                                refine k_callV C (y := yX6_quotientOf) [.int (iI u131.1)] 1 rfl (c_X6_quotientOf (x_l X) (x_G X) sc tx so pr b2 b t va re su u139.2.1 u139.2.2.1 u139.2.2.2.1 bd cm sk n k m u139.2.2.2.2.1 u139.2.2.2.2.2.1 u139.2.2.2.2.2.2 u131.1 (by first | assumption | omega) (by first | assumption | omega) (by first | assumption | omega)) gL_hangs_X6_quotientOf rfl ⟨rfl, by decide +kernel, by decide +kernel, by decide +kernel⟩ ⟨by decide, by decide⟩ 0 (fs := [.ref tx, .ref b, .ref so, .ref pr, .ref b2]) rfl rfl rfl [0, 1, 2, 3, 4, 5] (by decide) (wc := [(sc, .inr (5, [.ref tx, .ref b, .ref so, .ref pr, .ref b2])), (b, .inr (0, [.ref t, .int (iI u139.2.1), .int (iI bd), .int (iI cm), .long (jL sk)])), (t, .inr (3, [.ref va, .ref re, .ref su, .int (iI u139.2.2.1), .int (iI u139.2.2.2.1)])), (va, .inl (g_I (x_G X), 631, .inl (aI u139.2.2.2.2.1))), (re, .inl (g_I (x_G X), 2524, .inl (aI u139.2.2.2.2.2.1))), (su, .inl (g_J (x_G X), 631, .inr (.inl (aL u139.2.2.2.2.2.2))))]) rfl [] rfl (Nat.le_of_ble_eq_true rfl) ⟨Nat.le_of_ble_eq_true rfl, Nat.le_of_ble_eq_true rfl⟩ dL_hangs_170 (fun u170 => [(sc, .inr (5, [.ref tx, .ref b, .ref so, .ref pr, .ref b2])), (b, .inr (0, [.ref t, .int (iI u170.2.1), .int (iI bd), .int (iI cm), .long (jL sk)])), (t, .inr (3, [.ref va, .ref re, .ref su, .int (iI u170.2.2.1), .int (iI u170.2.2.2.1)])), (va, .inl (g_I (x_G X), 631, .inl (aI u170.2.2.2.2.1))), (re, .inl (g_I (x_G X), 2524, .inl (aI u170.2.2.2.2.2.1))), (su, .inl (g_J (x_G X), 631, .inr (.inl (aL u170.2.2.2.2.2.2))))]) (Or.inr ⟨[], [0, 1, 2, 3, 4, 5], [], rfl, by decide, by decide, by decide, fun _ => rfl⟩) (fun u170 => [.int (iI u170.1)]) (fun _ => rfl) 1 6 ⟨rfl, rfl⟩ (fun u170 hu170 => ?_)
                                obtain ⟨a170, bt170⟩ := hu170
                                have f170 : u170.1 = q := by rw [a170, a131]; exact pI_qv s4 (by omega)
                                refine k_iload C 2 rfl dL_hangs_173 ?_
                                refine k_icmp_ne C 202 (⟨by omega, by omega⟩) (⟨by omega, by omega⟩) dL_hangs_175 (by decide) (fun c175 => ?_) (fun c175 => ?_)
                                · exfalso; omega
                                · skip
                                  refine k_iload C 0 rfl dL_hangs_178 ?_
                                  refine k_iload C 4 rfl dL_hangs_180 ?_
                                  refine k_icmp_gt C 202 (⟨by omega, by omega⟩) (⟨by omega, by omega⟩) dL_hangs_182 (by decide) (fun c182 => ?_) (fun c182 => ?_)
                                  · exfalso; omega
                                  · skip
                                    refine k_iload C 0 rfl dL_hangs_185 ?_
                                    refine k_iconst C dL_hangs_187 ?_
                                    refine k_icmp_lt C 202 (⟨by omega, by omega⟩) (⟨by omega, by omega⟩) dL_hangs_188 (by decide) (fun c188 => ?_) (fun c188 => ?_)
                                    · exfalso; omega
                                    · skip
                                      refine k_iload C 0 rfl dL_hangs_191 ?_
                                      refine k_iload C 1 rfl dL_hangs_193 ?_
                                      refine k_icmp_gt C 202 (⟨by omega, by omega⟩) (⟨by omega, by omega⟩) dL_hangs_195 (by decide) (fun c195 => ?_) (fun c195 => ?_)
                                      · exfalso; omega
                                      · skip
                                        refine k_iconst C dL_hangs_198 ?_
                                        refine k_goto C 203 dL_hangs_199 (by decide) ?_
                                        refine k_istore C (lo' := [(5, .int (iI 1)), (8, .int (iI u139.1)), (7, .int (iI u131.1)), (6, .int (iI q)), (4, .int (iI ah)), (3, .int (iI be)), (2, .int (iI u8.1)), (1, .int (iI u2.1)), (0, .ref sc)]) dL_hangs_203 (by decide) rfl ?_
                                        refine k_iload C 2 rfl dL_hangs_205 ?_
                                        refine k_istore_n C (lo' := [(3, .int (iI u131.1)), (5, .int (iI 1)), (8, .int (iI u139.1)), (7, .int (iI u131.1)), (6, .int (iI q)), (4, .int (iI ah)), (2, .int (iI u8.1)), (1, .int (iI u2.1)), (0, .ref sc)]) dL_hangs_207 rfl (by decide) rfl ?_
                                        refine k_iload C 2 rfl dL_hangs_208 ?_
                                        refine k_istore C (lo' := [(4, .int (iI u139.1)), (3, .int (iI u131.1)), (5, .int (iI 1)), (8, .int (iI u139.1)), (7, .int (iI u131.1)), (6, .int (iI q)), (2, .int (iI u8.1)), (1, .int (iI u2.1)), (0, .ref sc)]) dL_hangs_210 (by decide) rfl ?_
                                        refine k_iload C 2 rfl dL_hangs_212 ?_
                                        refine k_if_eq C 292 (⟨by omega, by omega⟩) dL_hangs_214 (by decide) (fun c214 => ?_) (fun c214 => ?_)
                                        · exfalso; omega
                                        · skip
                                          refine k_iload C 5 rfl dL_hangs_217 ?_
                                          refine k_bipush C dL_hangs_219 (by decide) ?_
                                          refine k_irem C ⟨by omega, by omega⟩ ⟨by omega, by omega⟩ dL_hangs_221 ?_
                                          refine k_nmI (fun v221 e221 => ?_)
                                          refine k_if_ne C 292 (⟨by omega, by omega⟩) dL_hangs_222 (by decide) (fun c222 => ?_) (fun c222 => ?_)
                                          · skip
                                            obtain ⟨v292, e292⟩ : ∃ y : Int, y = q + 1 := ⟨_, rfl⟩
                                            refine k_iinc C (lo' := [(6, .int (iI v292)), (4, .int (iI u139.1)), (3, .int (iI u131.1)), (5, .int (iI 1)), (8, .int (iI u139.1)), (7, .int (iI u131.1)), (2, .int (iI u8.1)), (1, .int (iI u2.1)), (0, .ref sc)]) 5 rfl dL_hangs_292 (by decide) v292 e292 rfl ?_
                                            refine k_goto C 117 dL_hangs_295 (by decide) ?_
                                            refine k_lo (lo' := [(6, .int (iI v292)), (5, .int (iI 1)), (4, .int (iI u139.1)), (3, .int (iI u131.1)), (2, .int (iI u8.1)), (1, .int (iI u2.1)), (0, .ref sc)]) [0, 3, 1, 2, 6, 7, 8] rfl ?_
                                            exact ih117 v292 u131.1 u139.1 u170.2.1 u170.2.2.1 u170.2.2.2.1 u170.2.2.2.2.1 u170.2.2.2.2.2.1 u170.2.2.2.2.2.2 (⟨by omega, by omega, by omega, fun z => by have := w3 (by omega); rw [show v292.toNat = (q + 1).toNat by omega]; omega, by assumption⟩) (by omega)
                                          · skip
                                            refine k_aload_n C 8 rfl dL_hangs_225 rfl ?_
                                            refine k_iload C 5 rfl dL_hangs_226 ?_
                                            refine k_iconst C dL_hangs_228 ?_
                                            refine k_callSW C (y := yL_restLeft) [.ref sc, .int (iI q), .int (iI 0)] 3 rfl (o_L_restLeft (x_l X) (x_G X) sc tx so pr b2 b t va re su u170.2.1 u170.2.2.1 u170.2.2.2.1 bd cm sk n k m u170.2.2.2.2.1 u170.2.2.2.2.2.1 u170.2.2.2.2.2.2 q 0 (by first | assumption | omega) (by first | assumption | omega) (by first | assumption | omega) (by first | assumption | omega) (by first | assumption | omega) (by first | assumption | omega)) gL_hangs_L_restLeft rfl ⟨by decide +kernel, by decide +kernel, by decide +kernel⟩ ⟨by decide, by decide⟩ [0, 1, 2, 3, 4, 5] (by decide) (wc := [(sc, .inr (5, [.ref tx, .ref b, .ref so, .ref pr, .ref b2])), (b, .inr (0, [.ref t, .int (iI u170.2.1), .int (iI bd), .int (iI cm), .long (jL sk)])), (t, .inr (3, [.ref va, .ref re, .ref su, .int (iI u170.2.2.1), .int (iI u170.2.2.2.1)])), (va, .inl (g_I (x_G X), 631, .inl (aI u170.2.2.2.2.1))), (re, .inl (g_I (x_G X), 2524, .inl (aI u170.2.2.2.2.2.1))), (su, .inl (g_J (x_G X), 631, .inr (.inl (aL u170.2.2.2.2.2.2))))]) rfl [] rfl (Nat.le_of_ble_eq_true rfl) ⟨Nat.le_of_ble_eq_true rfl, Nat.le_of_ble_eq_true rfl⟩ dL_hangs_229 (fun u229 => [(sc, .inr (5, [.ref tx, .ref b, .ref so, .ref pr, .ref b2])), (b, .inr (0, [.ref t, .int (iI u229.2.1), .int (iI bd), .int (iI cm), .long (jL sk)])), (t, .inr (3, [.ref va, .ref re, .ref su, .int (iI u229.2.2.1), .int (iI u229.2.2.2.1)])), (va, .inl (g_I (x_G X), 631, .inl (aI u229.2.2.2.2.1))), (re, .inl (g_I (x_G X), 2524, .inl (aI u229.2.2.2.2.2.1))), (su, .inl (g_J (x_G X), 631, .inr (.inl (aL u229.2.2.2.2.2.2))))]) (Or.inr ⟨[], [0, 1, 2, 3, 4, 5], [], rfl, by decide, by decide, by decide, fun _ => rfl⟩) (fun u229 => [.int (iI u229.1)]) (fun _ => rfl) 1 6 ⟨rfl, rfl⟩ (fun u229 hu229 => ?_)
                                            obtain ⟨-, -, a229, bt229⟩ := hu229
                                            have f229 : u229.1 = (cR m k 0 (qv n q.toNat) : Int) := a229
                                            refine k_aload_n C 8 rfl dL_hangs_232 rfl ?_
                                            refine k_iload C 5 rfl dL_hangs_233 ?_
                                            refine k_iconst C dL_hangs_235 ?_
                                            refine k_callSW C (y := yL_restLeft) [.ref sc, .int (iI q), .int (iI 1)] 3 rfl (o_L_restLeft (x_l X) (x_G X) sc tx so pr b2 b t va re su u229.2.1 u229.2.2.1 u229.2.2.2.1 bd cm sk n k m u229.2.2.2.2.1 u229.2.2.2.2.2.1 u229.2.2.2.2.2.2 q 1 (by first | assumption | omega) (by first | assumption | omega) (by first | assumption | omega) (by first | assumption | omega) (by first | assumption | omega) (by first | assumption | omega)) gL_hangs_L_restLeft rfl ⟨by decide +kernel, by decide +kernel, by decide +kernel⟩ ⟨by decide, by decide⟩ [0, 1, 2, 3, 4, 5] (by decide) (wc := [(sc, .inr (5, [.ref tx, .ref b, .ref so, .ref pr, .ref b2])), (b, .inr (0, [.ref t, .int (iI u229.2.1), .int (iI bd), .int (iI cm), .long (jL sk)])), (t, .inr (3, [.ref va, .ref re, .ref su, .int (iI u229.2.2.1), .int (iI u229.2.2.2.1)])), (va, .inl (g_I (x_G X), 631, .inl (aI u229.2.2.2.2.1))), (re, .inl (g_I (x_G X), 2524, .inl (aI u229.2.2.2.2.2.1))), (su, .inl (g_J (x_G X), 631, .inr (.inl (aL u229.2.2.2.2.2.2))))]) rfl [.int (iI u229.1)] rfl (Nat.le_of_ble_eq_true rfl) ⟨Nat.le_of_ble_eq_true rfl, Nat.le_of_ble_eq_true rfl⟩ dL_hangs_236 (fun u236 => [(sc, .inr (5, [.ref tx, .ref b, .ref so, .ref pr, .ref b2])), (b, .inr (0, [.ref t, .int (iI u236.2.1), .int (iI bd), .int (iI cm), .long (jL sk)])), (t, .inr (3, [.ref va, .ref re, .ref su, .int (iI u236.2.2.1), .int (iI u236.2.2.2.1)])), (va, .inl (g_I (x_G X), 631, .inl (aI u236.2.2.2.2.1))), (re, .inl (g_I (x_G X), 2524, .inl (aI u236.2.2.2.2.2.1))), (su, .inl (g_J (x_G X), 631, .inr (.inl (aL u236.2.2.2.2.2.2))))]) (Or.inr ⟨[], [0, 1, 2, 3, 4, 5], [], rfl, by decide, by decide, by decide, fun _ => rfl⟩) (fun u236 => [.int (iI u236.1), .int (iI u229.1)]) (fun _ => rfl) 1 6 ⟨rfl, rfl⟩ (fun u236 hu236 => ?_)
                                            obtain ⟨-, -, a236, bt236⟩ := hu236
                                            have f236 : u236.1 = (cR m k 1 (qv n q.toNat) : Int) := a236
                                            refine k_iadd C dL_hangs_239 ?_
                                            refine k_nmI (fun v239 e239 => ?_)
                                            refine k_aload_n C 8 rfl dL_hangs_240 rfl ?_
                                            refine k_iload C 5 rfl dL_hangs_241 ?_
                                            refine k_iconst C dL_hangs_243 ?_
                                            refine k_callSW C (y := yL_restLeft) [.ref sc, .int (iI q), .int (iI 2)] 3 rfl (o_L_restLeft (x_l X) (x_G X) sc tx so pr b2 b t va re su u236.2.1 u236.2.2.1 u236.2.2.2.1 bd cm sk n k m u236.2.2.2.2.1 u236.2.2.2.2.2.1 u236.2.2.2.2.2.2 q 2 (by first | assumption | omega) (by first | assumption | omega) (by first | assumption | omega) (by first | assumption | omega) (by first | assumption | omega) (by first | assumption | omega)) gL_hangs_L_restLeft rfl ⟨by decide +kernel, by decide +kernel, by decide +kernel⟩ ⟨by decide, by decide⟩ [0, 1, 2, 3, 4, 5] (by decide) (wc := [(sc, .inr (5, [.ref tx, .ref b, .ref so, .ref pr, .ref b2])), (b, .inr (0, [.ref t, .int (iI u236.2.1), .int (iI bd), .int (iI cm), .long (jL sk)])), (t, .inr (3, [.ref va, .ref re, .ref su, .int (iI u236.2.2.1), .int (iI u236.2.2.2.1)])), (va, .inl (g_I (x_G X), 631, .inl (aI u236.2.2.2.2.1))), (re, .inl (g_I (x_G X), 2524, .inl (aI u236.2.2.2.2.2.1))), (su, .inl (g_J (x_G X), 631, .inr (.inl (aL u236.2.2.2.2.2.2))))]) rfl [.int (iI v239)] rfl (Nat.le_of_ble_eq_true rfl) ⟨Nat.le_of_ble_eq_true rfl, Nat.le_of_ble_eq_true rfl⟩ dL_hangs_244 (fun u244 => [(sc, .inr (5, [.ref tx, .ref b, .ref so, .ref pr, .ref b2])), (b, .inr (0, [.ref t, .int (iI u244.2.1), .int (iI bd), .int (iI cm), .long (jL sk)])), (t, .inr (3, [.ref va, .ref re, .ref su, .int (iI u244.2.2.1), .int (iI u244.2.2.2.1)])), (va, .inl (g_I (x_G X), 631, .inl (aI u244.2.2.2.2.1))), (re, .inl (g_I (x_G X), 2524, .inl (aI u244.2.2.2.2.2.1))), (su, .inl (g_J (x_G X), 631, .inr (.inl (aL u244.2.2.2.2.2.2))))]) (Or.inr ⟨[], [0, 1, 2, 3, 4, 5], [], rfl, by decide, by decide, by decide, fun _ => rfl⟩) (fun u244 => [.int (iI u244.1), .int (iI v239)]) (fun _ => rfl) 1 6 ⟨rfl, rfl⟩ (fun u244 hu244 => ?_)
                                            obtain ⟨-, -, a244, bt244⟩ := hu244
                                            have f244 : u244.1 = (cR m k 2 (qv n q.toNat) : Int) := a244
                                            refine k_iadd C dL_hangs_247 ?_
                                            refine k_nmI (fun v247 e247 => ?_)
                                            refine k_aload_n C 8 rfl dL_hangs_248 rfl ?_
                                            refine k_iload C 5 rfl dL_hangs_249 ?_
                                            refine k_iconst C dL_hangs_251 ?_
                                            refine k_callSW C (y := yL_restLeft) [.ref sc, .int (iI q), .int (iI 3)] 3 rfl (o_L_restLeft (x_l X) (x_G X) sc tx so pr b2 b t va re su u244.2.1 u244.2.2.1 u244.2.2.2.1 bd cm sk n k m u244.2.2.2.2.1 u244.2.2.2.2.2.1 u244.2.2.2.2.2.2 q 3 (by first | assumption | omega) (by first | assumption | omega) (by first | assumption | omega) (by first | assumption | omega) (by first | assumption | omega) (by first | assumption | omega)) gL_hangs_L_restLeft rfl ⟨by decide +kernel, by decide +kernel, by decide +kernel⟩ ⟨by decide, by decide⟩ [0, 1, 2, 3, 4, 5] (by decide) (wc := [(sc, .inr (5, [.ref tx, .ref b, .ref so, .ref pr, .ref b2])), (b, .inr (0, [.ref t, .int (iI u244.2.1), .int (iI bd), .int (iI cm), .long (jL sk)])), (t, .inr (3, [.ref va, .ref re, .ref su, .int (iI u244.2.2.1), .int (iI u244.2.2.2.1)])), (va, .inl (g_I (x_G X), 631, .inl (aI u244.2.2.2.2.1))), (re, .inl (g_I (x_G X), 2524, .inl (aI u244.2.2.2.2.2.1))), (su, .inl (g_J (x_G X), 631, .inr (.inl (aL u244.2.2.2.2.2.2))))]) rfl [.int (iI v247)] rfl (Nat.le_of_ble_eq_true rfl) ⟨Nat.le_of_ble_eq_true rfl, Nat.le_of_ble_eq_true rfl⟩ dL_hangs_252 (fun u252 => [(sc, .inr (5, [.ref tx, .ref b, .ref so, .ref pr, .ref b2])), (b, .inr (0, [.ref t, .int (iI u252.2.1), .int (iI bd), .int (iI cm), .long (jL sk)])), (t, .inr (3, [.ref va, .ref re, .ref su, .int (iI u252.2.2.1), .int (iI u252.2.2.2.1)])), (va, .inl (g_I (x_G X), 631, .inl (aI u252.2.2.2.2.1))), (re, .inl (g_I (x_G X), 2524, .inl (aI u252.2.2.2.2.2.1))), (su, .inl (g_J (x_G X), 631, .inr (.inl (aL u252.2.2.2.2.2.2))))]) (Or.inr ⟨[], [0, 1, 2, 3, 4, 5], [], rfl, by decide, by decide, by decide, fun _ => rfl⟩) (fun u252 => [.int (iI u252.1), .int (iI v247)]) (fun _ => rfl) 1 6 ⟨rfl, rfl⟩ (fun u252 hu252 => ?_)
                                            obtain ⟨-, -, a252, bt252⟩ := hu252
                                            have f252 : u252.1 = (cR m k 3 (qv n q.toNat) : Int) := a252
                                            have y252 := cR_sum m k (qv n q.toNat)
                                            refine k_iadd C dL_hangs_255 ?_
                                            refine k_nmI (fun v255 e255 => ?_)
                                            refine k_iload C 3 rfl dL_hangs_256 ?_
                                            refine k_icmp_ne C 289 (⟨by omega, by omega⟩) (⟨by omega, by omega⟩) dL_hangs_258 (by decide) (fun c258 => ?_) (fun c258 => ?_)
                                            · exfalso; omega
                                            · skip
                                              refine k_aload_n C 8 rfl dL_hangs_261 rfl ?_
                                              refine k_iload C 5 rfl dL_hangs_262 ?_
                                              refine k_callSW C (y := yL_sumLeft) [.ref sc, .int (iI q)] 2 rfl (o_L_sumLeft (x_l X) (x_G X) sc tx so pr b2 b t va re su u252.2.1 u252.2.2.1 u252.2.2.2.1 bd cm sk n k m u252.2.2.2.2.1 u252.2.2.2.2.2.1 u252.2.2.2.2.2.2 q (by first | assumption | omega) (by first | assumption | omega) (by first | assumption | omega) (by first | assumption | omega)) gL_hangs_L_sumLeft rfl ⟨by decide +kernel, by decide +kernel, by decide +kernel⟩ ⟨by decide, by decide⟩ [0, 1, 2, 3, 4, 5] (by decide) (wc := [(sc, .inr (5, [.ref tx, .ref b, .ref so, .ref pr, .ref b2])), (b, .inr (0, [.ref t, .int (iI u252.2.1), .int (iI bd), .int (iI cm), .long (jL sk)])), (t, .inr (3, [.ref va, .ref re, .ref su, .int (iI u252.2.2.1), .int (iI u252.2.2.2.1)])), (va, .inl (g_I (x_G X), 631, .inl (aI u252.2.2.2.2.1))), (re, .inl (g_I (x_G X), 2524, .inl (aI u252.2.2.2.2.2.1))), (su, .inl (g_J (x_G X), 631, .inr (.inl (aL u252.2.2.2.2.2.2))))]) rfl [] rfl (Nat.le_of_ble_eq_true rfl) ⟨Nat.le_of_ble_eq_true rfl, Nat.le_of_ble_eq_true rfl⟩ dL_hangs_264 (fun u264 => [(sc, .inr (5, [.ref tx, .ref b, .ref so, .ref pr, .ref b2])), (b, .inr (0, [.ref t, .int (iI u264.2.1), .int (iI bd), .int (iI cm), .long (jL sk)])), (t, .inr (3, [.ref va, .ref re, .ref su, .int (iI u264.2.2.1), .int (iI u264.2.2.2.1)])), (va, .inl (g_I (x_G X), 631, .inl (aI u264.2.2.2.2.1))), (re, .inl (g_I (x_G X), 2524, .inl (aI u264.2.2.2.2.2.1))), (su, .inl (g_J (x_G X), 631, .inr (.inl (aL u264.2.2.2.2.2.2))))]) (Or.inr ⟨[], [0, 1, 2, 3, 4, 5], [], rfl, by decide, by decide, by decide, fun _ => rfl⟩) (fun u264 => [.long (jL u264.1)]) (fun _ => rfl) 1 6 ⟨rfl, rfl⟩ (fun u264 hu264 => ?_)
                                              obtain ⟨-, a264, bt264⟩ := hu264
                                              have y264 := sR_lt (m := m) (t := k) (v := qv n q.toNat) (by omega)
                                              have z264 := cA_sR m k (qv n q.toNat)
                                              refine k_iload C 3 rfl dL_hangs_267 ?_
                                              refine k_i2l C (⟨by omega, by omega⟩) dL_hangs_269 ?_
                                              refine k_lcmp C (⟨by omega, by omega⟩) (⟨by omega, by omega⟩) dL_hangs_270 (fun v270 e270 b270 => ?_)
                                              clear e270
                                              refine k_if_lt C 289 (⟨by omega, by omega⟩) dL_hangs_271 (by decide) (fun c271 => ?_) (fun c271 => ?_)
                                              · exfalso; omega
                                              · skip
                                                refine k_aload_n C 8 rfl dL_hangs_274 rfl ?_
                                                refine k_iload C 5 rfl dL_hangs_275 ?_
                                                refine k_callSW C (y := yL_wouldStrike) [.ref sc, .int (iI q)] 2 rfl (o_L_wouldStrike (x_l X) (x_G X) sc tx so pr b2 b t va re su u264.2.1 u264.2.2.1 u264.2.2.2.1 bd cm sk n k m u264.2.2.2.2.1 u264.2.2.2.2.2.1 u264.2.2.2.2.2.2 q (by first | assumption | omega) (by first | assumption | omega) (by first | assumption | omega) (by first | assumption | omega)) gL_hangs_L_wouldStrike rfl ⟨by decide +kernel, by decide +kernel, by decide +kernel⟩ ⟨by decide, by decide⟩ [0, 1, 2, 3, 4, 5] (by decide) (wc := [(sc, .inr (5, [.ref tx, .ref b, .ref so, .ref pr, .ref b2])), (b, .inr (0, [.ref t, .int (iI u264.2.1), .int (iI bd), .int (iI cm), .long (jL sk)])), (t, .inr (3, [.ref va, .ref re, .ref su, .int (iI u264.2.2.1), .int (iI u264.2.2.2.1)])), (va, .inl (g_I (x_G X), 631, .inl (aI u264.2.2.2.2.1))), (re, .inl (g_I (x_G X), 2524, .inl (aI u264.2.2.2.2.2.1))), (su, .inl (g_J (x_G X), 631, .inr (.inl (aL u264.2.2.2.2.2.2))))]) rfl [] rfl (Nat.le_of_ble_eq_true rfl) ⟨Nat.le_of_ble_eq_true rfl, Nat.le_of_ble_eq_true rfl⟩ dL_hangs_277 (fun u277 => [(sc, .inr (5, [.ref tx, .ref b, .ref so, .ref pr, .ref b2])), (b, .inr (0, [.ref t, .int (iI u277.2.1), .int (iI bd), .int (iI cm), .long (jL sk)])), (t, .inr (3, [.ref va, .ref re, .ref su, .int (iI u277.2.2.1), .int (iI u277.2.2.2.1)])), (va, .inl (g_I (x_G X), 631, .inl (aI u277.2.2.2.2.1))), (re, .inl (g_I (x_G X), 2524, .inl (aI u277.2.2.2.2.2.1))), (su, .inl (g_J (x_G X), 631, .inr (.inl (aL u277.2.2.2.2.2.2))))]) (Or.inr ⟨[], [0, 1, 2, 3, 4, 5], [], rfl, by decide, by decide, by decide, fun _ => rfl⟩) (fun u277 => [.int (iI u277.1)]) (fun _ => rfl) 1 6 ⟨rfl, rfl⟩ (fun u277 hu277 => ?_)
                                                obtain ⟨-, a277, bt277⟩ := hu277
                                                have y277 := ws_le (n := n) (k := k) (m := m) (i := q)
                                                refine k_iload C 3 rfl dL_hangs_280 ?_
                                                refine k_icmp_gt C 289 (⟨by omega, by omega⟩) (⟨by omega, by omega⟩) dL_hangs_282 (by decide) (fun c282 => ?_) (fun c282 => ?_)
                                                · exfalso; omega
                                                · skip
                                                  refine k_iconst C dL_hangs_285 ?_
                                                  refine k_goto C 290 dL_hangs_286 (by decide) ?_
                                                  refine k_istore C (lo' := [(5, .int (iI 1)), (4, .int (iI u139.1)), (3, .int (iI u131.1)), (8, .int (iI u139.1)), (7, .int (iI u131.1)), (6, .int (iI q)), (2, .int (iI u8.1)), (1, .int (iI u2.1)), (0, .ref sc)]) dL_hangs_290 (by decide) rfl ?_
                                                  obtain ⟨v292, e292⟩ : ∃ y : Int, y = q + 1 := ⟨_, rfl⟩
                                                  refine k_iinc C (lo' := [(6, .int (iI v292)), (5, .int (iI 1)), (4, .int (iI u139.1)), (3, .int (iI u131.1)), (8, .int (iI u139.1)), (7, .int (iI u131.1)), (2, .int (iI u8.1)), (1, .int (iI u2.1)), (0, .ref sc)]) 5 rfl dL_hangs_292 (by decide) v292 e292 rfl ?_
                                                  refine k_goto C 117 dL_hangs_295 (by decide) ?_
                                                  refine k_lo (lo' := [(6, .int (iI v292)), (5, .int (iI 1)), (4, .int (iI u139.1)), (3, .int (iI u131.1)), (2, .int (iI u8.1)), (1, .int (iI u2.1)), (0, .ref sc)]) [0, 1, 2, 3, 6, 7, 8] rfl ?_
                                                  exact ih117 v292 u131.1 u139.1 u277.2.1 u277.2.2.1 u277.2.2.2.1 u277.2.2.2.2.1 u277.2.2.2.2.2.1 u277.2.2.2.2.2.2 (⟨by omega, by omega, by omega, fun z => by have := w3 (by omega); rw [show v292.toNat = (q + 1).toNat by omega]; omega, by assumption⟩) (by omega)
                  exact L117 _ 0 v14 v18 u100.2.1 u100.2.2.1 u100.2.2.2.1 u100.2.2.2.2.1 u100.2.2.2.2.2.1 u100.2.2.2.2.2.2 (⟨by omega, by omega, by omega, fun z => by rw [qvI_0 s4]; omega, bt100⟩) (Nat.lt_succ_self _)
